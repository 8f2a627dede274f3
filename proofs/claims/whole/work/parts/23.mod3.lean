theorem dk_Md_keys_0 : decode mi_Md_keys.2.1 0 = .ok (.aload_n 0, 1) := by decide +kernel
theorem dk_Md_keys_1 : decode mi_Md_keys.2.1 1 = .ok (.iload_n 1, 1) := by decide +kernel
theorem dk_Md_keys_2 : decode mi_Md_keys.2.1 2 = .ok (.iload_n 2, 1) := by decide +kernel
theorem dk_Md_keys_3 : decode mi_Md_keys.2.1 3 = .ok (.invokevirtual 233, 3) := by decide +kernel
theorem dk_Md_keys_6 : decode mi_Md_keys.2.1 6 = .ok (.istore 4, 2) := by decide +kernel
theorem dk_Md_keys_8 : decode mi_Md_keys.2.1 8 = .ok (.iload 4, 2) := by decide +kernel
theorem dk_Md_keys_10 : decode mi_Md_keys.2.1 10 = .ok (.ifCond .ne 21, 3) := by decide +kernel
theorem dk_Md_keys_13 : decode mi_Md_keys.2.1 13 = .ok (.iload_n 3, 1) := by decide +kernel
theorem dk_Md_keys_14 : decode mi_Md_keys.2.1 14 = .ok (.ifCond .lt 13, 3) := by decide +kernel
theorem dk_Md_keys_17 : decode mi_Md_keys.2.1 17 = .ok (.iload_n 3, 1) := by decide +kernel
theorem dk_Md_keys_18 : decode mi_Md_keys.2.1 18 = .ok (.iconst 1, 1) := by decide +kernel
theorem dk_Md_keys_19 : decode mi_Md_keys.2.1 19 = .ok (.aload_n 0, 1) := by decide +kernel
theorem dk_Md_keys_20 : decode mi_Md_keys.2.1 20 = .ok (.getfield 7, 3) := by decide +kernel
theorem dk_Md_keys_23 : decode mi_Md_keys.2.1 23 = .ok (.ishl, 1) := by decide +kernel
theorem dk_Md_keys_24 : decode mi_Md_keys.2.1 24 = .ok (.if_icmp .lt 7, 3) := by decide +kernel
theorem dk_Md_keys_27 : decode mi_Md_keys.2.1 27 = .ok (.bipush (-6), 2) := by decide +kernel
theorem dk_Md_keys_29 : decode mi_Md_keys.2.1 29 = .ok (.istore 4, 2) := by decide +kernel
theorem dk_Md_keys_31 : decode mi_Md_keys.2.1 31 = .ok (.iload 4, 2) := by decide +kernel
theorem dk_Md_keys_33 : decode mi_Md_keys.2.1 33 = .ok (.ifCond .eq 10, 3) := by decide +kernel
theorem dk_Md_keys_36 : decode mi_Md_keys.2.1 36 = .ok (.aload_n 0, 1) := by decide +kernel
theorem dk_Md_keys_37 : decode mi_Md_keys.2.1 37 = .ok (.iload 4, 2) := by decide +kernel
theorem dk_Md_keys_39 : decode mi_Md_keys.2.1 39 = .ok (.invokevirtual 97, 3) := by decide +kernel
theorem dk_Md_keys_42 : decode mi_Md_keys.2.1 42 = .ok (.ireturn, 1) := by decide +kernel
theorem dk_Md_keys_43 : decode mi_Md_keys.2.1 43 = .ok (.iconst 0, 1) := by decide +kernel
theorem dk_Md_keys_44 : decode mi_Md_keys.2.1 44 = .ok (.istore 5, 2) := by decide +kernel
theorem dk_Md_keys_46 : decode mi_Md_keys.2.1 46 = .ok (.iconst 0, 1) := by decide +kernel
theorem dk_Md_keys_47 : decode mi_Md_keys.2.1 47 = .ok (.istore 6, 2) := by decide +kernel
theorem dk_Md_keys_49 : decode mi_Md_keys.2.1 49 = .ok (.iload 6, 2) := by decide +kernel
theorem dk_Md_keys_51 : decode mi_Md_keys.2.1 51 = .ok (.bipush 8, 2) := by decide +kernel
theorem dk_Md_keys_53 : decode mi_Md_keys.2.1 53 = .ok (.if_icmp .ge 30, 3) := by decide +kernel
theorem dk_Md_keys_56 : decode mi_Md_keys.2.1 56 = .ok (.aload_n 0, 1) := by decide +kernel
theorem dk_Md_keys_57 : decode mi_Md_keys.2.1 57 = .ok (.iload_n 1, 1) := by decide +kernel
theorem dk_Md_keys_58 : decode mi_Md_keys.2.1 58 = .ok (.iload_n 2, 1) := by decide +kernel
theorem dk_Md_keys_59 : decode mi_Md_keys.2.1 59 = .ok (.iload 6, 2) := by decide +kernel
theorem dk_Md_keys_61 : decode mi_Md_keys.2.1 61 = .ok (.invokevirtual 236, 3) := by decide +kernel
theorem dk_Md_keys_64 : decode mi_Md_keys.2.1 64 = .ok (.iload_n 3, 1) := by decide +kernel
theorem dk_Md_keys_65 : decode mi_Md_keys.2.1 65 = .ok (.if_icmp .ne 12, 3) := by decide +kernel
theorem dk_Md_keys_68 : decode mi_Md_keys.2.1 68 = .ok (.iload 5, 2) := by decide +kernel
theorem dk_Md_keys_70 : decode mi_Md_keys.2.1 70 = .ok (.iconst 1, 1) := by decide +kernel
theorem dk_Md_keys_71 : decode mi_Md_keys.2.1 71 = .ok (.iload 6, 2) := by decide +kernel
theorem dk_Md_keys_73 : decode mi_Md_keys.2.1 73 = .ok (.ishl, 1) := by decide +kernel
theorem dk_Md_keys_74 : decode mi_Md_keys.2.1 74 = .ok (.ior, 1) := by decide +kernel
theorem dk_Md_keys_75 : decode mi_Md_keys.2.1 75 = .ok (.istore 5, 2) := by decide +kernel
theorem dk_Md_keys_77 : decode mi_Md_keys.2.1 77 = .ok (.iinc 6 1, 3) := by decide +kernel
theorem dk_Md_keys_80 : decode mi_Md_keys.2.1 80 = .ok (.goto (-31), 3) := by decide +kernel
theorem dk_Md_keys_83 : decode mi_Md_keys.2.1 83 = .ok (.iload 5, 2) := by decide +kernel
theorem dk_Md_keys_85 : decode mi_Md_keys.2.1 85 = .ok (.ireturn, 1) := by decide +kernel
def Md_keys_l49 (k_83 : Int32 → nm_St → Option (Int32 × nm_St)) : Nat → Int32 → Int32 → Int32 → Int32 → Int32 → nm_St → Option (Int32 × nm_St)
  | 0, _, _, _, _, _, _ => none
  | n + 1, x1, x2, x3, x5, x6, σ =>
    (if (8 : Int32) ≤ x6 then
      k_83 x5 σ
    else
      ((Md_told x1 x2 x6 σ).bind fun q5 =>
      (if q5.1 = x3 then
        (nm_let ((x5 ||| ((1 : Int32) <<< (x6 &&& 31)))) fun v7 =>
        (Md_keys_l49 k_83 n) x1 x2 x3 v7 (x6 + (1 : Int32)) q5.2)
      else
        (Md_keys_l49 k_83 n) x1 x2 x3 x5 (x6 + (1 : Int32)) q5.2)))
set_option maxRecDepth 100000 in
set_option maxHeartbeats 4000000 in
theorem r_Md_keys_l49 (X : nm_X) (F : nm_F) (hF0 : 4 ≤ nm_d F) (k_83 : Int32 → nm_St → Option (Int32 × nm_St)) (hk_83 : ∀ (x5 : Int32) (σ : nm_St), Rn X mi_Md_keys F (nm_Qf X F nm_wI) [(5, .int x5)] [] 83 σ (k_83 x5 σ)) : ∀ (n : Nat) (x1 : Int32) (x2 : Int32) (x3 : Int32) (x5 : Int32) (x6 : Int32) (σ : nm_St), Rn X mi_Md_keys F (nm_Qf X F nm_wI) [(0, .ref 70), (1, .int x1), (2, .int x2), (3, .int x3), (5, .int x5), (6, .int x6)] [] 49 σ (Md_keys_l49 k_83 n x1 x2 x3 x5 x6 σ) := by
  intro n
  induction n with
  | zero =>
    intro x1 x2 x3 x5 x6 σ
    exact rn_none
  | succ n ih =>
    intro x1 x2 x3 x5 x6 σ
    unfold Md_keys_l49
    refine rn_iload (pc := 49) dk_Md_keys_49 rfl ?_
    refine rn_bipush (pc := 51) (8 : Int32) dk_Md_keys_51 cn_b_8 ?_
    refine rn_icmp_ge (pc := 53) 83 dk_Md_keys_53 (by decide) (fun c4 => ?_) (fun c4 => ?_)
    · exact rn_sub (by rfl) (hk_83 x5 σ)
    · refine rn_aload_n (pc := 56) 0 dk_Md_keys_56 rfl rfl rfl ?_
      refine rn_iload_n (pc := 57) 1 dk_Md_keys_57 rfl rfl ?_
      refine rn_iload_n (pc := 58) 2 dk_Md_keys_58 rfl rfl ?_
      refine rn_iload (pc := 59) dk_Md_keys_59 rfl ?_
      refine cl_Md_236 (pc := 61) (As := [.int x1, .int x2, .int x6]) (st := []) rfl (ct_Md_told X x1 x2 x6 σ) (Nat.le_trans (Nat.le_of_ble_eq_true rfl) hF0) rfl rfl (Nat.le_of_ble_eq_true rfl) dk_Md_keys_61 (fun q5 => ?_)
      refine rn_iload_n (pc := 64) 3 dk_Md_keys_64 rfl rfl ?_
      refine rn_icmp_ne (pc := 65) 77 dk_Md_keys_65 (by decide) (fun c6 => ?_) (fun c6 => ?_)
      · refine rn_iinc (pc := 77) (1 : Int32) dk_Md_keys_77 cn_i_1 rfl rfl rfl ?_
        refine rn_goto (pc := 80) 49 dk_Md_keys_80 (by decide) ?_
        exact rn_sub (by rfl) (ih x1 x2 x3 x5 (x6 + (1 : Int32)) q5.2)
      · refine rn_iload (pc := 68) dk_Md_keys_68 rfl ?_
        refine rn_iconst (pc := 70) (1 : Int32) dk_Md_keys_70 cn_i_1 ?_
        refine rn_iload (pc := 71) dk_Md_keys_71 rfl ?_
        refine rn_ishl (pc := 73) dk_Md_keys_73 ?_
        refine rn_ior (pc := 74) dk_Md_keys_74 ?_
        refine rn_leti (fun v7 => ?_)
        refine rn_istore (pc := 75) dk_Md_keys_75 rfl rfl ?_
        refine rn_iinc (pc := 77) (1 : Int32) dk_Md_keys_77 cn_i_1 rfl rfl rfl ?_
        refine rn_goto (pc := 80) 49 dk_Md_keys_80 (by decide) ?_
        exact rn_sub (by rfl) (ih x1 x2 x3 v7 (x6 + (1 : Int32)) q5.2)
def Md_keys_j31 (x1 : Int32) (x2 : Int32) (x3 : Int32) (x4 : Int32) (σ : nm_St) : Option (Int32 × nm_St) :=
  (if x4 = 0 then
    Md_keys_l49 (fun (e9 : Int32) (s8 : nm_St) =>
      some (e9, s8)) 400 x1 x2 x3 (0 : Int32) (0 : Int32) σ
  else
    ((Md_no x4 σ).bind fun q10 =>
    some (q10.1, q10.2)))
set_option maxRecDepth 100000 in
set_option maxHeartbeats 4000000 in
theorem r_Md_keys_j31 (X : nm_X) (F : nm_F) (hF0 : 4 ≤ nm_d F) (x1 : Int32) (x2 : Int32) (x3 : Int32) (x4 : Int32) (σ : nm_St) : Rn X mi_Md_keys F (nm_Qf X F nm_wI) [(0, .ref 70), (1, .int x1), (2, .int x2), (3, .int x3), (4, .int x4)] [] 31 σ (Md_keys_j31 x1 x2 x3 x4 σ) := by
  unfold Md_keys_j31
  refine rn_iload (pc := 31) dk_Md_keys_31 rfl ?_
  refine rn_if_eq (pc := 33) 43 dk_Md_keys_33 (by decide) (fun c3 => ?_) (fun c3 => ?_)
  · refine rn_iconst (pc := 43) (0 : Int32) dk_Md_keys_43 cn_i_0 ?_
    refine rn_istore (pc := 44) dk_Md_keys_44 rfl rfl ?_
    refine rn_iconst (pc := 46) (0 : Int32) dk_Md_keys_46 cn_i_0 ?_
    refine rn_istore (pc := 47) dk_Md_keys_47 rfl rfl ?_
    refine rn_sub (by rfl) (r_Md_keys_l49 X F hF0 _ (fun e9 s8 => ?_) 400 x1 x2 x3 (0 : Int32) (0 : Int32) σ)
    refine rn_iload (pc := 83) dk_Md_keys_83 rfl ?_
    exact rn_iret rfl dk_Md_keys_85
  · refine rn_aload_n (pc := 36) 0 dk_Md_keys_36 rfl rfl rfl ?_
    refine rn_iload (pc := 37) dk_Md_keys_37 rfl ?_
    refine cl_Md_97 (pc := 39) (As := [.int x4]) (st := []) rfl (ct_Md_no X x4 σ) (Nat.le_trans (Nat.le_of_ble_eq_true rfl) hF0) rfl rfl (Nat.le_of_ble_eq_true rfl) dk_Md_keys_39 (fun q10 => ?_)
    exact rn_iret rfl dk_Md_keys_42
def Md_keys_j27 (x1 : Int32) (x2 : Int32) (x3 : Int32) (σ : nm_St) : Option (Int32 × nm_St) :=
  Md_keys_j31 x1 x2 x3 (-6 : Int32) σ
set_option maxRecDepth 100000 in
set_option maxHeartbeats 4000000 in
theorem r_Md_keys_j27 (X : nm_X) (F : nm_F) (hF0 : 4 ≤ nm_d F) (x1 : Int32) (x2 : Int32) (x3 : Int32) (σ : nm_St) : Rn X mi_Md_keys F (nm_Qf X F nm_wI) [(0, .ref 70), (1, .int x1), (2, .int x2), (3, .int x3)] [] 27 σ (Md_keys_j27 x1 x2 x3 σ) := by
  unfold Md_keys_j27
  refine rn_bipush (pc := 27) (-6 : Int32) dk_Md_keys_27 cn_b_m6 ?_
  refine rn_istore (pc := 29) dk_Md_keys_29 rfl rfl ?_
  exact rn_sub (by rfl) (r_Md_keys_j31 X F hF0 x1 x2 x3 (-6 : Int32) σ)
def Md_keys (p1 : Int32) (p2 : Int32) (p3 : Int32) (σ : nm_St) : Option (Int32 × nm_St) :=
  ((Md_barsOfLetter p1 p2 σ).bind fun q1 =>
  (if q1.1 = 0 then
    (if p3 < 0 then
      Md_keys_j27 p1 p2 p3 q1.2
    else
      (if p3 < ((1 : Int32) <<< ((q1.2.1 70 1) &&& 31)) then
        Md_keys_j31 p1 p2 p3 q1.1 q1.2
      else
        Md_keys_j27 p1 p2 p3 q1.2))
  else
    Md_keys_j31 p1 p2 p3 q1.1 q1.2))
set_option maxRecDepth 100000 in
set_option maxHeartbeats 4000000 in
theorem ct_Md_keys (X : nm_X) (p1 : Int32) (p2 : Int32) (p3 : Int32) (σ : nm_St) : Ct X mi_Md_keys 4 nm_wI [.ref 70, .int p1, .int p2, .int p3] σ (Md_keys p1 p2 p3 σ) := by
  refine Ct.of (by decide +kernel) rfl (fun F hF0 => ?_)
  unfold Md_keys
  refine rn_aload_n (pc := 0) 0 dk_Md_keys_0 rfl rfl rfl ?_
  refine rn_iload_n (pc := 1) 1 dk_Md_keys_1 rfl rfl ?_
  refine rn_iload_n (pc := 2) 2 dk_Md_keys_2 rfl rfl ?_
  refine cl_Md_233 (pc := 3) (As := [.int p1, .int p2]) (st := []) rfl (ct_Md_barsOfLetter X p1 p2 σ) (Nat.le_trans (Nat.le_of_ble_eq_true rfl) hF0) rfl rfl (Nat.le_of_ble_eq_true rfl) dk_Md_keys_3 (fun q1 => ?_)
  refine rn_istore (pc := 6) dk_Md_keys_6 rfl rfl ?_
  refine rn_iload (pc := 8) dk_Md_keys_8 rfl ?_
  refine rn_if_ne (pc := 10) 31 dk_Md_keys_10 (by decide) (fun c2 => ?_) (fun c2 => ?_)
  · exact rn_sub (by rfl) (r_Md_keys_j31 X F hF0 p1 p2 p3 q1.1 q1.2)
  · refine rn_iload_n (pc := 13) 3 dk_Md_keys_13 rfl rfl ?_
    refine rn_if_lt (pc := 14) 27 dk_Md_keys_14 (by decide) (fun c11 => ?_) (fun c11 => ?_)
    · exact rn_sub (by rfl) (r_Md_keys_j27 X F hF0 p1 p2 p3 q1.2)
    · refine rn_iload_n (pc := 17) 3 dk_Md_keys_17 rfl rfl ?_
      refine rn_iconst (pc := 18) (1 : Int32) dk_Md_keys_18 cn_i_1 ?_
      refine rn_aload_n (pc := 19) 0 dk_Md_keys_19 rfl rfl rfl ?_
      refine gf_Md_7 (pc := 20) rfl dk_Md_keys_20 ?_
      refine rn_ishl (pc := 23) dk_Md_keys_23 ?_
      refine rn_icmp_lt (pc := 24) 31 dk_Md_keys_24 (by decide) (fun c12 => ?_) (fun c12 => ?_)
      · exact rn_sub (by rfl) (r_Md_keys_j31 X F hF0 p1 p2 p3 q1.1 q1.2)
      · exact rn_sub (by rfl) (r_Md_keys_j27 X F hF0 p1 p2 p3 q1.2)
theorem dk_Md_tries_0 : decode mi_Md_tries.2.1 0 = .ok (.aload_n 0, 1) := by decide +kernel
theorem dk_Md_tries_1 : decode mi_Md_tries.2.1 1 = .ok (.iload_n 1, 1) := by decide +kernel
theorem dk_Md_tries_2 : decode mi_Md_tries.2.1 2 = .ok (.invokevirtual 164, 3) := by decide +kernel
theorem dk_Md_tries_5 : decode mi_Md_tries.2.1 5 = .ok (.istore_n 3, 1) := by decide +kernel
theorem dk_Md_tries_6 : decode mi_Md_tries.2.1 6 = .ok (.iconst 0, 1) := by decide +kernel
theorem dk_Md_tries_7 : decode mi_Md_tries.2.1 7 = .ok (.istore 4, 2) := by decide +kernel
theorem dk_Md_tries_9 : decode mi_Md_tries.2.1 9 = .ok (.iload_n 3, 1) := by decide +kernel
theorem dk_Md_tries_10 : decode mi_Md_tries.2.1 10 = .ok (.ifCond .ne 32, 3) := by decide +kernel
theorem dk_Md_tries_13 : decode mi_Md_tries.2.1 13 = .ok (.aload_n 0, 1) := by decide +kernel
theorem dk_Md_tries_14 : decode mi_Md_tries.2.1 14 = .ok (.getfield 50, 3) := by decide +kernel
theorem dk_Md_tries_17 : decode mi_Md_tries.2.1 17 = .ok (.iload_n 1, 1) := by decide +kernel
theorem dk_Md_tries_18 : decode mi_Md_tries.2.1 18 = .ok (.iaload, 1) := by decide +kernel
theorem dk_Md_tries_19 : decode mi_Md_tries.2.1 19 = .ok (.aload_n 0, 1) := by decide +kernel
theorem dk_Md_tries_20 : decode mi_Md_tries.2.1 20 = .ok (.getfield 7, 3) := by decide +kernel
theorem dk_Md_tries_23 : decode mi_Md_tries.2.1 23 = .ok (.if_icmp .lt 16, 3) := by decide +kernel
theorem dk_Md_tries_26 : decode mi_Md_tries.2.1 26 = .ok (.iload_n 2, 1) := by decide +kernel
theorem dk_Md_tries_27 : decode mi_Md_tries.2.1 27 = .ok (.iconst (-1), 1) := by decide +kernel
theorem dk_Md_tries_28 : decode mi_Md_tries.2.1 28 = .ok (.if_icmp .lt 11, 3) := by decide +kernel
theorem dk_Md_tries_31 : decode mi_Md_tries.2.1 31 = .ok (.iload_n 2, 1) := by decide +kernel
theorem dk_Md_tries_32 : decode mi_Md_tries.2.1 32 = .ok (.aload_n 0, 1) := by decide +kernel
theorem dk_Md_tries_33 : decode mi_Md_tries.2.1 33 = .ok (.getfield 7, 3) := by decide +kernel
theorem dk_Md_tries_36 : decode mi_Md_tries.2.1 36 = .ok (.if_icmp .lt 6, 3) := by decide +kernel
theorem dk_Md_tries_39 : decode mi_Md_tries.2.1 39 = .ok (.bipush (-5), 2) := by decide +kernel
theorem dk_Md_tries_41 : decode mi_Md_tries.2.1 41 = .ok (.istore_n 3, 1) := by decide +kernel
theorem dk_Md_tries_42 : decode mi_Md_tries.2.1 42 = .ok (.iconst 0, 1) := by decide +kernel
theorem dk_Md_tries_43 : decode mi_Md_tries.2.1 43 = .ok (.istore 5, 2) := by decide +kernel
theorem dk_Md_tries_45 : decode mi_Md_tries.2.1 45 = .ok (.iload 5, 2) := by decide +kernel
theorem dk_Md_tries_47 : decode mi_Md_tries.2.1 47 = .ok (.aload_n 0, 1) := by decide +kernel
theorem dk_Md_tries_48 : decode mi_Md_tries.2.1 48 = .ok (.getfield 7, 3) := by decide +kernel
theorem dk_Md_tries_51 : decode mi_Md_tries.2.1 51 = .ok (.if_icmp .ge 53, 3) := by decide +kernel
theorem dk_Md_tries_54 : decode mi_Md_tries.2.1 54 = .ok (.iload_n 3, 1) := by decide +kernel
theorem dk_Md_tries_55 : decode mi_Md_tries.2.1 55 = .ok (.ifCond .ne 49, 3) := by decide +kernel
theorem dk_Md_tries_58 : decode mi_Md_tries.2.1 58 = .ok (.aload_n 0, 1) := by decide +kernel
theorem dk_Md_tries_59 : decode mi_Md_tries.2.1 59 = .ok (.iload_n 1, 1) := by decide +kernel
theorem dk_Md_tries_60 : decode mi_Md_tries.2.1 60 = .ok (.iload 5, 2) := by decide +kernel
theorem dk_Md_tries_62 : decode mi_Md_tries.2.1 62 = .ok (.invokevirtual 230, 3) := by decide +kernel
theorem dk_Md_tries_65 : decode mi_Md_tries.2.1 65 = .ok (.ifCond .lt 15, 3) := by decide +kernel
theorem dk_Md_tries_68 : decode mi_Md_tries.2.1 68 = .ok (.aload_n 0, 1) := by decide +kernel
theorem dk_Md_tries_69 : decode mi_Md_tries.2.1 69 = .ok (.iload_n 1, 1) := by decide +kernel
theorem dk_Md_tries_70 : decode mi_Md_tries.2.1 70 = .ok (.iload 5, 2) := by decide +kernel
theorem dk_Md_tries_72 : decode mi_Md_tries.2.1 72 = .ok (.invokevirtual 230, 3) := by decide +kernel
theorem dk_Md_tries_75 : decode mi_Md_tries.2.1 75 = .ok (.bipush 99, 2) := by decide +kernel
theorem dk_Md_tries_77 : decode mi_Md_tries.2.1 77 = .ok (.if_icmp .le 9, 3) := by decide +kernel
theorem dk_Md_tries_80 : decode mi_Md_tries.2.1 80 = .ok (.bipush (-6), 2) := by decide +kernel
theorem dk_Md_tries_82 : decode mi_Md_tries.2.1 82 = .ok (.istore_n 3, 1) := by decide +kernel
theorem dk_Md_tries_83 : decode mi_Md_tries.2.1 83 = .ok (.goto 15, 3) := by decide +kernel
theorem dk_Md_tries_86 : decode mi_Md_tries.2.1 86 = .ok (.iload 4, 2) := by decide +kernel
theorem dk_Md_tries_88 : decode mi_Md_tries.2.1 88 = .ok (.aload_n 0, 1) := by decide +kernel
theorem dk_Md_tries_89 : decode mi_Md_tries.2.1 89 = .ok (.iload_n 1, 1) := by decide +kernel
theorem dk_Md_tries_90 : decode mi_Md_tries.2.1 90 = .ok (.iload 5, 2) := by decide +kernel
theorem dk_Md_tries_92 : decode mi_Md_tries.2.1 92 = .ok (.invokevirtual 230, 3) := by decide +kernel
theorem dk_Md_tries_95 : decode mi_Md_tries.2.1 95 = .ok (.iadd, 1) := by decide +kernel
theorem dk_Md_tries_96 : decode mi_Md_tries.2.1 96 = .ok (.istore 4, 2) := by decide +kernel
theorem dk_Md_tries_98 : decode mi_Md_tries.2.1 98 = .ok (.iinc 5 1, 3) := by decide +kernel
theorem dk_Md_tries_101 : decode mi_Md_tries.2.1 101 = .ok (.goto (-56), 3) := by decide +kernel
theorem dk_Md_tries_104 : decode mi_Md_tries.2.1 104 = .ok (.iload_n 3, 1) := by decide +kernel
theorem dk_Md_tries_105 : decode mi_Md_tries.2.1 105 = .ok (.ifCond .ne 11, 3) := by decide +kernel
theorem dk_Md_tries_108 : decode mi_Md_tries.2.1 108 = .ok (.iload 4, 2) := by decide +kernel
theorem dk_Md_tries_110 : decode mi_Md_tries.2.1 110 = .ok (.ifCond .ne 6, 3) := by decide +kernel
theorem dk_Md_tries_113 : decode mi_Md_tries.2.1 113 = .ok (.bipush (-6), 2) := by decide +kernel
theorem dk_Md_tries_115 : decode mi_Md_tries.2.1 115 = .ok (.istore_n 3, 1) := by decide +kernel
theorem dk_Md_tries_116 : decode mi_Md_tries.2.1 116 = .ok (.iload_n 3, 1) := by decide +kernel
theorem dk_Md_tries_117 : decode mi_Md_tries.2.1 117 = .ok (.ifCond .eq 9, 3) := by decide +kernel
theorem dk_Md_tries_120 : decode mi_Md_tries.2.1 120 = .ok (.aload_n 0, 1) := by decide +kernel
theorem dk_Md_tries_121 : decode mi_Md_tries.2.1 121 = .ok (.iload_n 3, 1) := by decide +kernel
theorem dk_Md_tries_122 : decode mi_Md_tries.2.1 122 = .ok (.invokevirtual 97, 3) := by decide +kernel
theorem dk_Md_tries_125 : decode mi_Md_tries.2.1 125 = .ok (.ireturn, 1) := by decide +kernel
theorem dk_Md_tries_126 : decode mi_Md_tries.2.1 126 = .ok (.iconst 0, 1) := by decide +kernel
theorem dk_Md_tries_127 : decode mi_Md_tries.2.1 127 = .ok (.istore 5, 2) := by decide +kernel
theorem dk_Md_tries_129 : decode mi_Md_tries.2.1 129 = .ok (.iconst 0, 1) := by decide +kernel
theorem dk_Md_tries_130 : decode mi_Md_tries.2.1 130 = .ok (.istore 6, 2) := by decide +kernel
theorem dk_Md_tries_132 : decode mi_Md_tries.2.1 132 = .ok (.iconst (-1), 1) := by decide +kernel
theorem dk_Md_tries_133 : decode mi_Md_tries.2.1 133 = .ok (.istore 7, 2) := by decide +kernel
theorem dk_Md_tries_135 : decode mi_Md_tries.2.1 135 = .ok (.iconst 0, 1) := by decide +kernel
theorem dk_Md_tries_136 : decode mi_Md_tries.2.1 136 = .ok (.istore 8, 2) := by decide +kernel
theorem dk_Md_tries_138 : decode mi_Md_tries.2.1 138 = .ok (.iload 8, 2) := by decide +kernel
theorem dk_Md_tries_140 : decode mi_Md_tries.2.1 140 = .ok (.aload_n 0, 1) := by decide +kernel
theorem dk_Md_tries_141 : decode mi_Md_tries.2.1 141 = .ok (.getfield 7, 3) := by decide +kernel
theorem dk_Md_tries_144 : decode mi_Md_tries.2.1 144 = .ok (.if_icmp .ge 104, 3) := by decide +kernel
theorem dk_Md_tries_147 : decode mi_Md_tries.2.1 147 = .ok (.iconst (-1), 1) := by decide +kernel
theorem dk_Md_tries_148 : decode mi_Md_tries.2.1 148 = .ok (.istore 9, 2) := by decide +kernel
theorem dk_Md_tries_150 : decode mi_Md_tries.2.1 150 = .ok (.iconst 0, 1) := by decide +kernel
theorem dk_Md_tries_151 : decode mi_Md_tries.2.1 151 = .ok (.istore 10, 2) := by decide +kernel
theorem dk_Md_tries_153 : decode mi_Md_tries.2.1 153 = .ok (.iload 10, 2) := by decide +kernel
theorem dk_Md_tries_155 : decode mi_Md_tries.2.1 155 = .ok (.aload_n 0, 1) := by decide +kernel
theorem dk_Md_tries_156 : decode mi_Md_tries.2.1 156 = .ok (.getfield 7, 3) := by decide +kernel
theorem dk_Md_tries_159 : decode mi_Md_tries.2.1 159 = .ok (.if_icmp .ge 47, 3) := by decide +kernel
theorem dk_Md_tries_162 : decode mi_Md_tries.2.1 162 = .ok (.aload_n 0, 1) := by decide +kernel
theorem dk_Md_tries_163 : decode mi_Md_tries.2.1 163 = .ok (.iload 5, 2) := by decide +kernel
theorem dk_Md_tries_165 : decode mi_Md_tries.2.1 165 = .ok (.iload 10, 2) := by decide +kernel
theorem dk_Md_tries_167 : decode mi_Md_tries.2.1 167 = .ok (.invokevirtual 174, 3) := by decide +kernel
theorem dk_Md_tries_170 : decode mi_Md_tries.2.1 170 = .ok (.ifCond .ne 30, 3) := by decide +kernel
theorem dk_Md_tries_173 : decode mi_Md_tries.2.1 173 = .ok (.iload 9, 2) := by decide +kernel
theorem dk_Md_tries_175 : decode mi_Md_tries.2.1 175 = .ok (.iconst (-1), 1) := by decide +kernel
theorem dk_Md_tries_176 : decode mi_Md_tries.2.1 176 = .ok (.if_icmp .eq 20, 3) := by decide +kernel
theorem dk_Md_tries_179 : decode mi_Md_tries.2.1 179 = .ok (.aload_n 0, 1) := by decide +kernel
theorem dk_Md_tries_180 : decode mi_Md_tries.2.1 180 = .ok (.iload_n 1, 1) := by decide +kernel
theorem dk_Md_tries_181 : decode mi_Md_tries.2.1 181 = .ok (.iload 10, 2) := by decide +kernel
theorem dk_Md_tries_183 : decode mi_Md_tries.2.1 183 = .ok (.invokevirtual 230, 3) := by decide +kernel
theorem dk_Md_tries_186 : decode mi_Md_tries.2.1 186 = .ok (.aload_n 0, 1) := by decide +kernel
theorem dk_Md_tries_187 : decode mi_Md_tries.2.1 187 = .ok (.iload_n 1, 1) := by decide +kernel
theorem dk_Md_tries_188 : decode mi_Md_tries.2.1 188 = .ok (.iload 9, 2) := by decide +kernel
theorem dk_Md_tries_190 : decode mi_Md_tries.2.1 190 = .ok (.invokevirtual 230, 3) := by decide +kernel
theorem dk_Md_tries_193 : decode mi_Md_tries.2.1 193 = .ok (.if_icmp .le 7, 3) := by decide +kernel
theorem dk_Md_tries_196 : decode mi_Md_tries.2.1 196 = .ok (.iload 10, 2) := by decide +kernel
theorem dk_Md_tries_198 : decode mi_Md_tries.2.1 198 = .ok (.istore 9, 2) := by decide +kernel
theorem dk_Md_tries_200 : decode mi_Md_tries.2.1 200 = .ok (.iinc 10 1, 3) := by decide +kernel
theorem dk_Md_tries_203 : decode mi_Md_tries.2.1 203 = .ok (.goto (-50), 3) := by decide +kernel
theorem dk_Md_tries_206 : decode mi_Md_tries.2.1 206 = .ok (.iload 5, 2) := by decide +kernel
theorem dk_Md_tries_208 : decode mi_Md_tries.2.1 208 = .ok (.iconst 1, 1) := by decide +kernel
theorem dk_Md_tries_209 : decode mi_Md_tries.2.1 209 = .ok (.iload 9, 2) := by decide +kernel
theorem dk_Md_tries_211 : decode mi_Md_tries.2.1 211 = .ok (.ishl, 1) := by decide +kernel
theorem dk_Md_tries_212 : decode mi_Md_tries.2.1 212 = .ok (.ior, 1) := by decide +kernel
theorem dk_Md_tries_213 : decode mi_Md_tries.2.1 213 = .ok (.istore 5, 2) := by decide +kernel
theorem dk_Md_tries_215 : decode mi_Md_tries.2.1 215 = .ok (.iload 6, 2) := by decide +kernel
theorem dk_Md_tries_217 : decode mi_Md_tries.2.1 217 = .ok (.iload 8, 2) := by decide +kernel
theorem dk_Md_tries_219 : decode mi_Md_tries.2.1 219 = .ok (.iconst 1, 1) := by decide +kernel
theorem dk_Md_tries_220 : decode mi_Md_tries.2.1 220 = .ok (.iadd, 1) := by decide +kernel
theorem dk_Md_tries_221 : decode mi_Md_tries.2.1 221 = .ok (.aload_n 0, 1) := by decide +kernel
theorem dk_Md_tries_222 : decode mi_Md_tries.2.1 222 = .ok (.iload_n 1, 1) := by decide +kernel
theorem dk_Md_tries_223 : decode mi_Md_tries.2.1 223 = .ok (.iload 9, 2) := by decide +kernel
theorem dk_Md_tries_225 : decode mi_Md_tries.2.1 225 = .ok (.invokevirtual 230, 3) := by decide +kernel
theorem dk_Md_tries_228 : decode mi_Md_tries.2.1 228 = .ok (.imul, 1) := by decide +kernel
theorem dk_Md_tries_229 : decode mi_Md_tries.2.1 229 = .ok (.iadd, 1) := by decide +kernel
theorem dk_Md_tries_230 : decode mi_Md_tries.2.1 230 = .ok (.istore 6, 2) := by decide +kernel
theorem dk_Md_tries_232 : decode mi_Md_tries.2.1 232 = .ok (.iload 8, 2) := by decide +kernel
theorem dk_Md_tries_234 : decode mi_Md_tries.2.1 234 = .ok (.iload_n 2, 1) := by decide +kernel
theorem dk_Md_tries_235 : decode mi_Md_tries.2.1 235 = .ok (.if_icmp .ne 7, 3) := by decide +kernel
theorem dk_Md_tries_238 : decode mi_Md_tries.2.1 238 = .ok (.iload 9, 2) := by decide +kernel
theorem dk_Md_tries_240 : decode mi_Md_tries.2.1 240 = .ok (.istore 7, 2) := by decide +kernel
theorem dk_Md_tries_242 : decode mi_Md_tries.2.1 242 = .ok (.iinc 8 1, 3) := by decide +kernel
theorem dk_Md_tries_245 : decode mi_Md_tries.2.1 245 = .ok (.goto (-107), 3) := by decide +kernel
theorem dk_Md_tries_248 : decode mi_Md_tries.2.1 248 = .ok (.iload_n 2, 1) := by decide +kernel
theorem dk_Md_tries_249 : decode mi_Md_tries.2.1 249 = .ok (.iconst (-1), 1) := by decide +kernel
theorem dk_Md_tries_250 : decode mi_Md_tries.2.1 250 = .ok (.if_icmp .ne 15, 3) := by decide +kernel
theorem dk_Md_tries_253 : decode mi_Md_tries.2.1 253 = .ok (.sipush 1000, 3) := by decide +kernel
theorem dk_Md_tries_256 : decode mi_Md_tries.2.1 256 = .ok (.iload 6, 2) := by decide +kernel
theorem dk_Md_tries_258 : decode mi_Md_tries.2.1 258 = .ok (.imul, 1) := by decide +kernel
theorem dk_Md_tries_259 : decode mi_Md_tries.2.1 259 = .ok (.iload 4, 2) := by decide +kernel
theorem dk_Md_tries_261 : decode mi_Md_tries.2.1 261 = .ok (.idiv, 1) := by decide +kernel
theorem dk_Md_tries_262 : decode mi_Md_tries.2.1 262 = .ok (.goto 5, 3) := by decide +kernel
theorem dk_Md_tries_265 : decode mi_Md_tries.2.1 265 = .ok (.iload 7, 2) := by decide +kernel
theorem dk_Md_tries_267 : decode mi_Md_tries.2.1 267 = .ok (.ireturn, 1) := by decide +kernel
def Md_tries_l45 (k_104 : Int32 → Int32 → Int32 → Int32 → nm_St → Option (Int32 × nm_St)) : Nat → Int32 → Int32 → Int32 → Int32 → Int32 → nm_St → Option (Int32 × nm_St)
  | 0, _, _, _, _, _, _ => none
  | n + 1, x1, x2, x3, x4, x5, σ =>
    (if (σ.1 70 1) ≤ x5 then
      k_104 x1 x2 x3 x4 σ
    else
      (if x3 = 0 then
        ((Md_intAt x1 x5 σ).bind fun q5 =>
        (if q5.1 < 0 then
          (Md_tries_l45 k_104 n) x1 x2 (-6 : Int32) x4 (x5 + (1 : Int32)) q5.2
        else
          ((Md_intAt x1 x5 q5.2).bind fun q7 =>
          (if q7.1 ≤ (99 : Int32) then
            ((Md_intAt x1 x5 q7.2).bind fun q9 =>
            (Md_tries_l45 k_104 n) x1 x2 x3 (x4 + q9.1) (x5 + (1 : Int32)) q9.2)
          else
            (Md_tries_l45 k_104 n) x1 x2 (-6 : Int32) x4 (x5 + (1 : Int32)) q7.2))))
      else
        k_104 x1 x2 x3 x4 σ))
set_option maxRecDepth 100000 in
set_option maxHeartbeats 4000000 in
theorem r_Md_tries_l45 (X : nm_X) (F : nm_F) (hF0 : 2 ≤ nm_d F) (k_104 : Int32 → Int32 → Int32 → Int32 → nm_St → Option (Int32 × nm_St)) (hk_104 : ∀ (x1 : Int32) (x2 : Int32) (x3 : Int32) (x4 : Int32) (σ : nm_St), Rn X mi_Md_tries F (nm_Qf X F nm_wI) [(0, .ref 70), (1, .int x1), (2, .int x2), (3, .int x3), (4, .int x4)] [] 104 σ (k_104 x1 x2 x3 x4 σ)) : ∀ (n : Nat) (x1 : Int32) (x2 : Int32) (x3 : Int32) (x4 : Int32) (x5 : Int32) (σ : nm_St), Rn X mi_Md_tries F (nm_Qf X F nm_wI) [(0, .ref 70), (1, .int x1), (2, .int x2), (3, .int x3), (4, .int x4), (5, .int x5)] [] 45 σ (Md_tries_l45 k_104 n x1 x2 x3 x4 x5 σ) := by
  intro n
  induction n with
  | zero =>
    intro x1 x2 x3 x4 x5 σ
    exact rn_none
  | succ n ih =>
    intro x1 x2 x3 x4 x5 σ
    unfold Md_tries_l45
    refine rn_iload (pc := 45) dk_Md_tries_45 rfl ?_
    refine rn_aload_n (pc := 47) 0 dk_Md_tries_47 rfl rfl rfl ?_
    refine gf_Md_7 (pc := 48) rfl dk_Md_tries_48 ?_
    refine rn_icmp_ge (pc := 51) 104 dk_Md_tries_51 (by decide) (fun c3 => ?_) (fun c3 => ?_)
    · exact rn_sub (by rfl) (hk_104 x1 x2 x3 x4 σ)
    · refine rn_iload_n (pc := 54) 3 dk_Md_tries_54 rfl rfl ?_
      refine rn_if_ne (pc := 55) 104 dk_Md_tries_55 (by decide) (fun c4 => ?_) (fun c4 => ?_)
      · exact rn_sub (by rfl) (hk_104 x1 x2 x3 x4 σ)
      · refine rn_aload_n (pc := 58) 0 dk_Md_tries_58 rfl rfl rfl ?_
        refine rn_iload_n (pc := 59) 1 dk_Md_tries_59 rfl rfl ?_
        refine rn_iload (pc := 60) dk_Md_tries_60 rfl ?_
        refine cl_Md_230 (pc := 62) (As := [.int x1, .int x5]) (st := []) rfl (ct_Md_intAt X x1 x5 σ) (Nat.le_trans (Nat.le_of_ble_eq_true rfl) hF0) rfl rfl (Nat.le_of_ble_eq_true rfl) dk_Md_tries_62 (fun q5 => ?_)
        refine rn_if_lt (pc := 65) 80 dk_Md_tries_65 (by decide) (fun c6 => ?_) (fun c6 => ?_)
        · refine rn_bipush (pc := 80) (-6 : Int32) dk_Md_tries_80 cn_b_m6 ?_
          refine rn_istore_n (pc := 82) 3 dk_Md_tries_82 rfl rfl rfl ?_
          refine rn_goto (pc := 83) 98 dk_Md_tries_83 (by decide) ?_
          refine rn_iinc (pc := 98) (1 : Int32) dk_Md_tries_98 cn_i_1 rfl rfl rfl ?_
          refine rn_goto (pc := 101) 45 dk_Md_tries_101 (by decide) ?_
          exact rn_sub (by rfl) (ih x1 x2 (-6 : Int32) x4 (x5 + (1 : Int32)) q5.2)
        · refine rn_aload_n (pc := 68) 0 dk_Md_tries_68 rfl rfl rfl ?_
          refine rn_iload_n (pc := 69) 1 dk_Md_tries_69 rfl rfl ?_
          refine rn_iload (pc := 70) dk_Md_tries_70 rfl ?_
          refine cl_Md_230 (pc := 72) (As := [.int x1, .int x5]) (st := []) rfl (ct_Md_intAt X x1 x5 q5.2) (Nat.le_trans (Nat.le_of_ble_eq_true rfl) hF0) rfl rfl (Nat.le_of_ble_eq_true rfl) dk_Md_tries_72 (fun q7 => ?_)
          refine rn_bipush (pc := 75) (99 : Int32) dk_Md_tries_75 cn_b_99 ?_
          refine rn_icmp_le (pc := 77) 86 dk_Md_tries_77 (by decide) (fun c8 => ?_) (fun c8 => ?_)
          · refine rn_iload (pc := 86) dk_Md_tries_86 rfl ?_
            refine rn_aload_n (pc := 88) 0 dk_Md_tries_88 rfl rfl rfl ?_
            refine rn_iload_n (pc := 89) 1 dk_Md_tries_89 rfl rfl ?_
            refine rn_iload (pc := 90) dk_Md_tries_90 rfl ?_
            refine cl_Md_230 (pc := 92) (As := [.int x1, .int x5]) (st := [.int x4]) rfl (ct_Md_intAt X x1 x5 q7.2) (Nat.le_trans (Nat.le_of_ble_eq_true rfl) hF0) rfl rfl (Nat.le_of_ble_eq_true rfl) dk_Md_tries_92 (fun q9 => ?_)
            refine rn_iadd (pc := 95) dk_Md_tries_95 ?_
            refine rn_istore (pc := 96) dk_Md_tries_96 rfl rfl ?_
            refine rn_iinc (pc := 98) (1 : Int32) dk_Md_tries_98 cn_i_1 rfl rfl rfl ?_
            refine rn_goto (pc := 101) 45 dk_Md_tries_101 (by decide) ?_
            exact rn_sub (by rfl) (ih x1 x2 x3 (x4 + q9.1) (x5 + (1 : Int32)) q9.2)
          · refine rn_bipush (pc := 80) (-6 : Int32) dk_Md_tries_80 cn_b_m6 ?_
            refine rn_istore_n (pc := 82) 3 dk_Md_tries_82 rfl rfl rfl ?_
            refine rn_goto (pc := 83) 98 dk_Md_tries_83 (by decide) ?_
            refine rn_iinc (pc := 98) (1 : Int32) dk_Md_tries_98 cn_i_1 rfl rfl rfl ?_
            refine rn_goto (pc := 101) 45 dk_Md_tries_101 (by decide) ?_
            exact rn_sub (by rfl) (ih x1 x2 (-6 : Int32) x4 (x5 + (1 : Int32)) q7.2)
def Md_tries_l153 (k_206 : Int32 → Int32 → Int32 → Int32 → Int32 → Int32 → Int32 → Int32 → nm_St → Option (Int32 × nm_St)) : Nat → Int32 → Int32 → Int32 → Int32 → Int32 → Int32 → Int32 → Int32 → Int32 → nm_St → Option (Int32 × nm_St)
  | 0, _, _, _, _, _, _, _, _, _, _ => none
  | n + 1, x1, x2, x4, x5, x6, x7, x8, x9, x10, σ =>
    (if (σ.1 70 1) ≤ x10 then
      k_206 x1 x2 x4 x5 x6 x7 x8 x9 σ
    else
      ((Md_has x5 x10 σ).bind fun q19 =>
      (if q19.1 = 0 then
        (if x9 = (-1 : Int32) then
          (Md_tries_l153 k_206 n) x1 x2 x4 x5 x6 x7 x8 x10 (x10 + (1 : Int32)) q19.2
        else
          ((Md_intAt x1 x10 q19.2).bind fun q22 =>
          ((Md_intAt x1 x9 q22.2).bind fun q23 =>
          (if q22.1 ≤ q23.1 then
            (Md_tries_l153 k_206 n) x1 x2 x4 x5 x6 x7 x8 x9 (x10 + (1 : Int32)) q23.2
          else
            (Md_tries_l153 k_206 n) x1 x2 x4 x5 x6 x7 x8 x10 (x10 + (1 : Int32)) q23.2))))
      else
        (Md_tries_l153 k_206 n) x1 x2 x4 x5 x6 x7 x8 x9 (x10 + (1 : Int32)) q19.2)))
set_option maxRecDepth 100000 in
set_option maxHeartbeats 4000000 in
theorem r_Md_tries_l153 (X : nm_X) (F : nm_F) (hF0 : 2 ≤ nm_d F) (k_206 : Int32 → Int32 → Int32 → Int32 → Int32 → Int32 → Int32 → Int32 → nm_St → Option (Int32 × nm_St)) (hk_206 : ∀ (x1 : Int32) (x2 : Int32) (x4 : Int32) (x5 : Int32) (x6 : Int32) (x7 : Int32) (x8 : Int32) (x9 : Int32) (σ : nm_St), Rn X mi_Md_tries F (nm_Qf X F nm_wI) [(0, .ref 70), (1, .int x1), (2, .int x2), (4, .int x4), (5, .int x5), (6, .int x6), (7, .int x7), (8, .int x8), (9, .int x9)] [] 206 σ (k_206 x1 x2 x4 x5 x6 x7 x8 x9 σ)) : ∀ (n : Nat) (x1 : Int32) (x2 : Int32) (x4 : Int32) (x5 : Int32) (x6 : Int32) (x7 : Int32) (x8 : Int32) (x9 : Int32) (x10 : Int32) (σ : nm_St), Rn X mi_Md_tries F (nm_Qf X F nm_wI) [(0, .ref 70), (1, .int x1), (2, .int x2), (4, .int x4), (5, .int x5), (6, .int x6), (7, .int x7), (8, .int x8), (9, .int x9), (10, .int x10)] [] 153 σ (Md_tries_l153 k_206 n x1 x2 x4 x5 x6 x7 x8 x9 x10 σ) := by
  intro n
  induction n with
  | zero =>
    intro x1 x2 x4 x5 x6 x7 x8 x9 x10 σ
    exact rn_none
  | succ n ih =>
    intro x1 x2 x4 x5 x6 x7 x8 x9 x10 σ
    unfold Md_tries_l153
    refine rn_iload (pc := 153) dk_Md_tries_153 rfl ?_
    refine rn_aload_n (pc := 155) 0 dk_Md_tries_155 rfl rfl rfl ?_
    refine gf_Md_7 (pc := 156) rfl dk_Md_tries_156 ?_
    refine rn_icmp_ge (pc := 159) 206 dk_Md_tries_159 (by decide) (fun c18 => ?_) (fun c18 => ?_)
    · exact rn_sub (by rfl) (hk_206 x1 x2 x4 x5 x6 x7 x8 x9 σ)
    · refine rn_aload_n (pc := 162) 0 dk_Md_tries_162 rfl rfl rfl ?_
      refine rn_iload (pc := 163) dk_Md_tries_163 rfl ?_
      refine rn_iload (pc := 165) dk_Md_tries_165 rfl ?_
      refine cl_Md_174 (pc := 167) (As := [.int x5, .int x10]) (st := []) rfl (ct_Md_has X x5 x10 σ) (Nat.le_trans (Nat.le_of_ble_eq_true rfl) hF0) rfl rfl (Nat.le_of_ble_eq_true rfl) dk_Md_tries_167 (fun q19 => ?_)
      refine rn_if_ne (pc := 170) 200 dk_Md_tries_170 (by decide) (fun c20 => ?_) (fun c20 => ?_)
      · refine rn_iinc (pc := 200) (1 : Int32) dk_Md_tries_200 cn_i_1 rfl rfl rfl ?_
        refine rn_goto (pc := 203) 153 dk_Md_tries_203 (by decide) ?_
        exact rn_sub (by rfl) (ih x1 x2 x4 x5 x6 x7 x8 x9 (x10 + (1 : Int32)) q19.2)
      · refine rn_iload (pc := 173) dk_Md_tries_173 rfl ?_
        refine rn_iconst (pc := 175) (-1 : Int32) dk_Md_tries_175 cn_i_m1 ?_
        refine rn_icmp_eq (pc := 176) 196 dk_Md_tries_176 (by decide) (fun c21 => ?_) (fun c21 => ?_)
        · refine rn_iload (pc := 196) dk_Md_tries_196 rfl ?_
          refine rn_istore (pc := 198) dk_Md_tries_198 rfl rfl ?_
          refine rn_iinc (pc := 200) (1 : Int32) dk_Md_tries_200 cn_i_1 rfl rfl rfl ?_
          refine rn_goto (pc := 203) 153 dk_Md_tries_203 (by decide) ?_
          exact rn_sub (by rfl) (ih x1 x2 x4 x5 x6 x7 x8 x10 (x10 + (1 : Int32)) q19.2)
        · refine rn_aload_n (pc := 179) 0 dk_Md_tries_179 rfl rfl rfl ?_
          refine rn_iload_n (pc := 180) 1 dk_Md_tries_180 rfl rfl ?_
          refine rn_iload (pc := 181) dk_Md_tries_181 rfl ?_
          refine cl_Md_230 (pc := 183) (As := [.int x1, .int x10]) (st := []) rfl (ct_Md_intAt X x1 x10 q19.2) (Nat.le_trans (Nat.le_of_ble_eq_true rfl) hF0) rfl rfl (Nat.le_of_ble_eq_true rfl) dk_Md_tries_183 (fun q22 => ?_)
          refine rn_aload_n (pc := 186) 0 dk_Md_tries_186 rfl rfl rfl ?_
          refine rn_iload_n (pc := 187) 1 dk_Md_tries_187 rfl rfl ?_
          refine rn_iload (pc := 188) dk_Md_tries_188 rfl ?_
          refine cl_Md_230 (pc := 190) (As := [.int x1, .int x9]) (st := [.int q22.1]) rfl (ct_Md_intAt X x1 x9 q22.2) (Nat.le_trans (Nat.le_of_ble_eq_true rfl) hF0) rfl rfl (Nat.le_of_ble_eq_true rfl) dk_Md_tries_190 (fun q23 => ?_)
          refine rn_icmp_le (pc := 193) 200 dk_Md_tries_193 (by decide) (fun c24 => ?_) (fun c24 => ?_)
          · refine rn_iinc (pc := 200) (1 : Int32) dk_Md_tries_200 cn_i_1 rfl rfl rfl ?_
            refine rn_goto (pc := 203) 153 dk_Md_tries_203 (by decide) ?_
            exact rn_sub (by rfl) (ih x1 x2 x4 x5 x6 x7 x8 x9 (x10 + (1 : Int32)) q23.2)
          · refine rn_iload (pc := 196) dk_Md_tries_196 rfl ?_
            refine rn_istore (pc := 198) dk_Md_tries_198 rfl rfl ?_
            refine rn_iinc (pc := 200) (1 : Int32) dk_Md_tries_200 cn_i_1 rfl rfl rfl ?_
            refine rn_goto (pc := 203) 153 dk_Md_tries_203 (by decide) ?_
            exact rn_sub (by rfl) (ih x1 x2 x4 x5 x6 x7 x8 x10 (x10 + (1 : Int32)) q23.2)
def Md_tries_l138 (k_248 : Int32 → Int32 → Int32 → Int32 → nm_St → Option (Int32 × nm_St)) : Nat → Int32 → Int32 → Int32 → Int32 → Int32 → Int32 → Int32 → nm_St → Option (Int32 × nm_St)
  | 0, _, _, _, _, _, _, _, _ => none
  | n + 1, x1, x2, x4, x5, x6, x7, x8, σ =>
    (if (σ.1 70 1) ≤ x8 then
      k_248 x2 x4 x6 x7 σ
    else
      Md_tries_l153 (fun (e26 : Int32) (e27 : Int32) (e28 : Int32) (e29 : Int32) (e30 : Int32) (e31 : Int32) (e32 : Int32) (e33 : Int32) (s25 : nm_St) =>
        (nm_let ((e29 ||| ((1 : Int32) <<< (e33 &&& 31)))) fun v34 =>
        ((Md_intAt e26 e33 s25).bind fun q35 =>
        (nm_let ((e30 + ((e32 + (1 : Int32)) * q35.1))) fun v36 =>
        (if e32 = e27 then
          (Md_tries_l138 k_248 n) e26 e27 e28 v34 v36 e33 (e32 + (1 : Int32)) q35.2
        else
          (Md_tries_l138 k_248 n) e26 e27 e28 v34 v36 e31 (e32 + (1 : Int32)) q35.2))))) 400 x1 x2 x4 x5 x6 x7 x8 (-1 : Int32) (0 : Int32) σ)
set_option maxRecDepth 100000 in
set_option maxHeartbeats 4000000 in
theorem r_Md_tries_l138 (X : nm_X) (F : nm_F) (hF0 : 2 ≤ nm_d F) (k_248 : Int32 → Int32 → Int32 → Int32 → nm_St → Option (Int32 × nm_St)) (hk_248 : ∀ (x2 : Int32) (x4 : Int32) (x6 : Int32) (x7 : Int32) (σ : nm_St), Rn X mi_Md_tries F (nm_Qf X F nm_wI) [(2, .int x2), (4, .int x4), (6, .int x6), (7, .int x7)] [] 248 σ (k_248 x2 x4 x6 x7 σ)) : ∀ (n : Nat) (x1 : Int32) (x2 : Int32) (x4 : Int32) (x5 : Int32) (x6 : Int32) (x7 : Int32) (x8 : Int32) (σ : nm_St), Rn X mi_Md_tries F (nm_Qf X F nm_wI) [(0, .ref 70), (1, .int x1), (2, .int x2), (4, .int x4), (5, .int x5), (6, .int x6), (7, .int x7), (8, .int x8)] [] 138 σ (Md_tries_l138 k_248 n x1 x2 x4 x5 x6 x7 x8 σ) := by
  intro n
  induction n with
  | zero =>
    intro x1 x2 x4 x5 x6 x7 x8 σ
    exact rn_none
  | succ n ih =>
    intro x1 x2 x4 x5 x6 x7 x8 σ
    unfold Md_tries_l138
    refine rn_iload (pc := 138) dk_Md_tries_138 rfl ?_
    refine rn_aload_n (pc := 140) 0 dk_Md_tries_140 rfl rfl rfl ?_
    refine gf_Md_7 (pc := 141) rfl dk_Md_tries_141 ?_
    refine rn_icmp_ge (pc := 144) 248 dk_Md_tries_144 (by decide) (fun c17 => ?_) (fun c17 => ?_)
    · exact rn_sub (by rfl) (hk_248 x2 x4 x6 x7 σ)
    · refine rn_iconst (pc := 147) (-1 : Int32) dk_Md_tries_147 cn_i_m1 ?_
      refine rn_istore (pc := 148) dk_Md_tries_148 rfl rfl ?_
      refine rn_iconst (pc := 150) (0 : Int32) dk_Md_tries_150 cn_i_0 ?_
      refine rn_istore (pc := 151) dk_Md_tries_151 rfl rfl ?_
      refine rn_sub (by rfl) (r_Md_tries_l153 X F hF0 _ (fun e26 e27 e28 e29 e30 e31 e32 e33 s25 => ?_) 400 x1 x2 x4 x5 x6 x7 x8 (-1 : Int32) (0 : Int32) σ)
      refine rn_iload (pc := 206) dk_Md_tries_206 rfl ?_
      refine rn_iconst (pc := 208) (1 : Int32) dk_Md_tries_208 cn_i_1 ?_
      refine rn_iload (pc := 209) dk_Md_tries_209 rfl ?_
      refine rn_ishl (pc := 211) dk_Md_tries_211 ?_
      refine rn_ior (pc := 212) dk_Md_tries_212 ?_
      refine rn_leti (fun v34 => ?_)
      refine rn_istore (pc := 213) dk_Md_tries_213 rfl rfl ?_
      refine rn_iload (pc := 215) dk_Md_tries_215 rfl ?_
      refine rn_iload (pc := 217) dk_Md_tries_217 rfl ?_
      refine rn_iconst (pc := 219) (1 : Int32) dk_Md_tries_219 cn_i_1 ?_
      refine rn_iadd (pc := 220) dk_Md_tries_220 ?_
      refine rn_aload_n (pc := 221) 0 dk_Md_tries_221 rfl rfl rfl ?_
      refine rn_iload_n (pc := 222) 1 dk_Md_tries_222 rfl rfl ?_
      refine rn_iload (pc := 223) dk_Md_tries_223 rfl ?_
      refine cl_Md_230 (pc := 225) (As := [.int e26, .int e33]) (st := [.int (e32 + (1 : Int32)), .int e30]) rfl (ct_Md_intAt X e26 e33 s25) (Nat.le_trans (Nat.le_of_ble_eq_true rfl) hF0) rfl rfl (Nat.le_of_ble_eq_true rfl) dk_Md_tries_225 (fun q35 => ?_)
      refine rn_imul (pc := 228) dk_Md_tries_228 ?_
      refine rn_iadd (pc := 229) dk_Md_tries_229 ?_
      refine rn_leti (fun v36 => ?_)
      refine rn_istore (pc := 230) dk_Md_tries_230 rfl rfl ?_
      refine rn_iload (pc := 232) dk_Md_tries_232 rfl ?_
      refine rn_iload_n (pc := 234) 2 dk_Md_tries_234 rfl rfl ?_
      refine rn_icmp_ne (pc := 235) 242 dk_Md_tries_235 (by decide) (fun c37 => ?_) (fun c37 => ?_)
      · refine rn_iinc (pc := 242) (1 : Int32) dk_Md_tries_242 cn_i_1 rfl rfl rfl ?_
        refine rn_goto (pc := 245) 138 dk_Md_tries_245 (by decide) ?_
        exact rn_sub (by rfl) (ih e26 e27 e28 v34 v36 e31 (e32 + (1 : Int32)) q35.2)
      · refine rn_iload (pc := 238) dk_Md_tries_238 rfl ?_
        refine rn_istore (pc := 240) dk_Md_tries_240 rfl rfl ?_
        refine rn_iinc (pc := 242) (1 : Int32) dk_Md_tries_242 cn_i_1 rfl rfl rfl ?_
        refine rn_goto (pc := 245) 138 dk_Md_tries_245 (by decide) ?_
        exact rn_sub (by rfl) (ih e26 e27 e28 v34 v36 e33 (e32 + (1 : Int32)) q35.2)
def Md_tries_j116 (x1 : Int32) (x2 : Int32) (x3 : Int32) (x4 : Int32) (σ : nm_St) : Option (Int32 × nm_St) :=
  (if x3 = 0 then
    Md_tries_l138 (fun (e39 : Int32) (e40 : Int32) (e41 : Int32) (e42 : Int32) (s38 : nm_St) =>
      (if e39 = (-1 : Int32) then
        (nm_g (!decide (e40 = 0)) (
        some ((((1000 : Int32) * e41) / e40), s38)))
      else
        some (e42, s38))) 400 x1 x2 x4 (0 : Int32) (0 : Int32) (-1 : Int32) (0 : Int32) σ
  else
    ((Md_no x3 σ).bind fun q44 =>
    some (q44.1, q44.2)))
set_option maxRecDepth 100000 in
set_option maxHeartbeats 4000000 in
theorem r_Md_tries_j116 (X : nm_X) (F : nm_F) (hF0 : 2 ≤ nm_d F) (x1 : Int32) (x2 : Int32) (x3 : Int32) (x4 : Int32) (σ : nm_St) : Rn X mi_Md_tries F (nm_Qf X F nm_wI) [(0, .ref 70), (1, .int x1), (2, .int x2), (3, .int x3), (4, .int x4)] [] 116 σ (Md_tries_j116 x1 x2 x3 x4 σ) := by
  unfold Md_tries_j116
  refine rn_iload_n (pc := 116) 3 dk_Md_tries_116 rfl rfl ?_
  refine rn_if_eq (pc := 117) 126 dk_Md_tries_117 (by decide) (fun c16 => ?_) (fun c16 => ?_)
  · refine rn_iconst (pc := 126) (0 : Int32) dk_Md_tries_126 cn_i_0 ?_
    refine rn_istore (pc := 127) dk_Md_tries_127 rfl rfl ?_
    refine rn_iconst (pc := 129) (0 : Int32) dk_Md_tries_129 cn_i_0 ?_
    refine rn_istore (pc := 130) dk_Md_tries_130 rfl rfl ?_
    refine rn_iconst (pc := 132) (-1 : Int32) dk_Md_tries_132 cn_i_m1 ?_
    refine rn_istore (pc := 133) dk_Md_tries_133 rfl rfl ?_
    refine rn_iconst (pc := 135) (0 : Int32) dk_Md_tries_135 cn_i_0 ?_
    refine rn_istore (pc := 136) dk_Md_tries_136 rfl rfl ?_
    refine rn_sub (by rfl) (r_Md_tries_l138 X F hF0 _ (fun e39 e40 e41 e42 s38 => ?_) 400 x1 x2 x4 (0 : Int32) (0 : Int32) (-1 : Int32) (0 : Int32) σ)
    refine rn_iload_n (pc := 248) 2 dk_Md_tries_248 rfl rfl ?_
    refine rn_iconst (pc := 249) (-1 : Int32) dk_Md_tries_249 cn_i_m1 ?_
    refine rn_icmp_ne (pc := 250) 265 dk_Md_tries_250 (by decide) (fun c43 => ?_) (fun c43 => ?_)
    · refine rn_iload (pc := 265) dk_Md_tries_265 rfl ?_
      exact rn_iret rfl dk_Md_tries_267
    · refine rn_sipush (pc := 253) (1000 : Int32) dk_Md_tries_253 cn_s_1000 ?_
      refine rn_iload (pc := 256) dk_Md_tries_256 rfl ?_
      refine rn_imul (pc := 258) dk_Md_tries_258 ?_
      refine rn_iload (pc := 259) dk_Md_tries_259 rfl ?_
      refine rn_idiv (pc := 261) dk_Md_tries_261 ?_
      refine rn_goto (pc := 262) 267 dk_Md_tries_262 (by decide) ?_
      exact rn_iret rfl dk_Md_tries_267
  · refine rn_aload_n (pc := 120) 0 dk_Md_tries_120 rfl rfl rfl ?_
    refine rn_iload_n (pc := 121) 3 dk_Md_tries_121 rfl rfl ?_
    refine cl_Md_97 (pc := 122) (As := [.int x3]) (st := []) rfl (ct_Md_no X x3 σ) (Nat.le_trans (Nat.le_of_ble_eq_true rfl) hF0) rfl rfl (Nat.le_of_ble_eq_true rfl) dk_Md_tries_122 (fun q44 => ?_)
    exact rn_iret rfl dk_Md_tries_125
def Md_tries_j104 (x1 : Int32) (x2 : Int32) (x3 : Int32) (x4 : Int32) (σ : nm_St) : Option (Int32 × nm_St) :=
  (if x3 = 0 then
    (if x4 = 0 then
      Md_tries_j116 x1 x2 (-6 : Int32) x4 σ
    else
      Md_tries_j116 x1 x2 x3 x4 σ)
  else
    Md_tries_j116 x1 x2 x3 x4 σ)
set_option maxRecDepth 100000 in
set_option maxHeartbeats 4000000 in
theorem r_Md_tries_j104 (X : nm_X) (F : nm_F) (hF0 : 2 ≤ nm_d F) (x1 : Int32) (x2 : Int32) (x3 : Int32) (x4 : Int32) (σ : nm_St) : Rn X mi_Md_tries F (nm_Qf X F nm_wI) [(0, .ref 70), (1, .int x1), (2, .int x2), (3, .int x3), (4, .int x4)] [] 104 σ (Md_tries_j104 x1 x2 x3 x4 σ) := by
  unfold Md_tries_j104
  refine rn_iload_n (pc := 104) 3 dk_Md_tries_104 rfl rfl ?_
  refine rn_if_ne (pc := 105) 116 dk_Md_tries_105 (by decide) (fun c15 => ?_) (fun c15 => ?_)
  · exact rn_sub (by rfl) (r_Md_tries_j116 X F hF0 x1 x2 x3 x4 σ)
  · refine rn_iload (pc := 108) dk_Md_tries_108 rfl ?_
    refine rn_if_ne (pc := 110) 116 dk_Md_tries_110 (by decide) (fun c45 => ?_) (fun c45 => ?_)
    · exact rn_sub (by rfl) (r_Md_tries_j116 X F hF0 x1 x2 x3 x4 σ)
    · refine rn_bipush (pc := 113) (-6 : Int32) dk_Md_tries_113 cn_b_m6 ?_
      refine rn_istore_n (pc := 115) 3 dk_Md_tries_115 rfl rfl rfl ?_
      exact rn_sub (by rfl) (r_Md_tries_j116 X F hF0 x1 x2 (-6 : Int32) x4 σ)
def Md_tries_j42 (x1 : Int32) (x2 : Int32) (x3 : Int32) (x4 : Int32) (σ : nm_St) : Option (Int32 × nm_St) :=
  Md_tries_l45 (fun (e11 : Int32) (e12 : Int32) (e13 : Int32) (e14 : Int32) (s10 : nm_St) =>
    Md_tries_j104 e11 e12 e13 e14 s10) 400 x1 x2 x3 x4 (0 : Int32) σ
set_option maxRecDepth 100000 in
set_option maxHeartbeats 4000000 in
theorem r_Md_tries_j42 (X : nm_X) (F : nm_F) (hF0 : 2 ≤ nm_d F) (x1 : Int32) (x2 : Int32) (x3 : Int32) (x4 : Int32) (σ : nm_St) : Rn X mi_Md_tries F (nm_Qf X F nm_wI) [(0, .ref 70), (1, .int x1), (2, .int x2), (3, .int x3), (4, .int x4)] [] 42 σ (Md_tries_j42 x1 x2 x3 x4 σ) := by
  unfold Md_tries_j42
  refine rn_iconst (pc := 42) (0 : Int32) dk_Md_tries_42 cn_i_0 ?_
  refine rn_istore (pc := 43) dk_Md_tries_43 rfl rfl ?_
  refine rn_sub (by rfl) (r_Md_tries_l45 X F hF0 _ (fun e11 e12 e13 e14 s10 => ?_) 400 x1 x2 x3 x4 (0 : Int32) σ)
  exact rn_sub (by rfl) (r_Md_tries_j104 X F hF0 e11 e12 e13 e14 s10)
def Md_tries_j39 (x1 : Int32) (x2 : Int32) (x4 : Int32) (σ : nm_St) : Option (Int32 × nm_St) :=
  Md_tries_j42 x1 x2 (-5 : Int32) x4 σ
set_option maxRecDepth 100000 in
set_option maxHeartbeats 4000000 in
theorem r_Md_tries_j39 (X : nm_X) (F : nm_F) (hF0 : 2 ≤ nm_d F) (x1 : Int32) (x2 : Int32) (x4 : Int32) (σ : nm_St) : Rn X mi_Md_tries F (nm_Qf X F nm_wI) [(0, .ref 70), (1, .int x1), (2, .int x2), (4, .int x4)] [] 39 σ (Md_tries_j39 x1 x2 x4 σ) := by
  unfold Md_tries_j39
  refine rn_bipush (pc := 39) (-5 : Int32) dk_Md_tries_39 cn_b_m5 ?_
  refine rn_istore_n (pc := 41) 3 dk_Md_tries_41 rfl rfl rfl ?_
  exact rn_sub (by rfl) (r_Md_tries_j42 X F hF0 x1 x2 (-5 : Int32) x4 σ)
def Md_tries (p1 : Int32) (p2 : Int32) (σ : nm_St) : Option (Int32 × nm_St) :=
  ((Md_wanted p1 σ).bind fun q1 =>
  (if q1.1 = 0 then
    (nm_g (nm_in p1 8) (
    (if (q1.2.1 80 p1.toNatClampNeg) < (q1.2.1 70 1) then
      Md_tries_j39 p1 p2 (0 : Int32) q1.2
    else
      (if p2 < (-1 : Int32) then
        Md_tries_j39 p1 p2 (0 : Int32) q1.2
      else
        (if p2 < (q1.2.1 70 1) then
          Md_tries_j42 p1 p2 q1.1 (0 : Int32) q1.2
        else
          Md_tries_j39 p1 p2 (0 : Int32) q1.2)))))
  else
    Md_tries_j42 p1 p2 q1.1 (0 : Int32) q1.2))
set_option maxRecDepth 100000 in
set_option maxHeartbeats 4000000 in
theorem ct_Md_tries (X : nm_X) (p1 : Int32) (p2 : Int32) (σ : nm_St) : Ct X mi_Md_tries 2 nm_wI [.ref 70, .int p1, .int p2] σ (Md_tries p1 p2 σ) := by
  refine Ct.of (by decide +kernel) rfl (fun F hF0 => ?_)
  unfold Md_tries
  refine rn_aload_n (pc := 0) 0 dk_Md_tries_0 rfl rfl rfl ?_
  refine rn_iload_n (pc := 1) 1 dk_Md_tries_1 rfl rfl ?_
  refine cl_Md_164 (pc := 2) (As := [.int p1]) (st := []) rfl (ct_Md_wanted X p1 σ) (Nat.le_trans (Nat.le_of_ble_eq_true rfl) hF0) rfl rfl (Nat.le_of_ble_eq_true rfl) dk_Md_tries_2 (fun q1 => ?_)
  refine rn_istore_n (pc := 5) 3 dk_Md_tries_5 rfl rfl rfl ?_
  refine rn_iconst (pc := 6) (0 : Int32) dk_Md_tries_6 cn_i_0 ?_
  refine rn_istore (pc := 7) dk_Md_tries_7 rfl rfl ?_
  refine rn_iload_n (pc := 9) 3 dk_Md_tries_9 rfl rfl ?_
  refine rn_if_ne (pc := 10) 42 dk_Md_tries_10 (by decide) (fun c2 => ?_) (fun c2 => ?_)
  · exact rn_sub (by rfl) (r_Md_tries_j42 X F hF0 p1 p2 q1.1 (0 : Int32) q1.2)
  · refine rn_aload_n (pc := 13) 0 dk_Md_tries_13 rfl rfl rfl ?_
    refine gf_Md_50 (pc := 14) rfl dk_Md_tries_14 ?_
    refine rn_iload_n (pc := 17) 1 dk_Md_tries_17 rfl rfl ?_
    refine rn_iaload (pc := 18) rfl dk_Md_tries_18 (fun g46 => ?_)
    refine rn_aload_n (pc := 19) 0 dk_Md_tries_19 rfl rfl rfl ?_
    refine gf_Md_7 (pc := 20) rfl dk_Md_tries_20 ?_
    refine rn_icmp_lt (pc := 23) 39 dk_Md_tries_23 (by decide) (fun c47 => ?_) (fun c47 => ?_)
    · exact rn_sub (by rfl) (r_Md_tries_j39 X F hF0 p1 p2 (0 : Int32) q1.2)
    · refine rn_iload_n (pc := 26) 2 dk_Md_tries_26 rfl rfl ?_
      refine rn_iconst (pc := 27) (-1 : Int32) dk_Md_tries_27 cn_i_m1 ?_
      refine rn_icmp_lt (pc := 28) 39 dk_Md_tries_28 (by decide) (fun c48 => ?_) (fun c48 => ?_)
      · exact rn_sub (by rfl) (r_Md_tries_j39 X F hF0 p1 p2 (0 : Int32) q1.2)
      · refine rn_iload_n (pc := 31) 2 dk_Md_tries_31 rfl rfl ?_
        refine rn_aload_n (pc := 32) 0 dk_Md_tries_32 rfl rfl rfl ?_
        refine gf_Md_7 (pc := 33) rfl dk_Md_tries_33 ?_
        refine rn_icmp_lt (pc := 36) 42 dk_Md_tries_36 (by decide) (fun c49 => ?_) (fun c49 => ?_)
        · exact rn_sub (by rfl) (r_Md_tries_j42 X F hF0 p1 p2 q1.1 (0 : Int32) q1.2)
        · exact rn_sub (by rfl) (r_Md_tries_j39 X F hF0 p1 p2 (0 : Int32) q1.2)
theorem dk_Md_who_0 : decode mi_Md_who.2.1 0 = .ok (.aload_n 0, 1) := by decide +kernel
theorem dk_Md_who_1 : decode mi_Md_who.2.1 1 = .ok (.iload_n 1, 1) := by decide +kernel
theorem dk_Md_who_2 : decode mi_Md_who.2.1 2 = .ok (.invokevirtual 93, 3) := by decide +kernel
theorem dk_Md_who_5 : decode mi_Md_who.2.1 5 = .ok (.ifCond .eq 11, 3) := by decide +kernel
theorem dk_Md_who_8 : decode mi_Md_who.2.1 8 = .ok (.aload_n 0, 1) := by decide +kernel
theorem dk_Md_who_9 : decode mi_Md_who.2.1 9 = .ok (.iload_n 2, 1) := by decide +kernel
theorem dk_Md_who_10 : decode mi_Md_who.2.1 10 = .ok (.invokevirtual 93, 3) := by decide +kernel
theorem dk_Md_who_13 : decode mi_Md_who.2.1 13 = .ok (.ifCond .ne 9, 3) := by decide +kernel
theorem dk_Md_who_16 : decode mi_Md_who.2.1 16 = .ok (.aload_n 0, 1) := by decide +kernel
theorem dk_Md_who_17 : decode mi_Md_who.2.1 17 = .ok (.iconst (-1), 1) := by decide +kernel
theorem dk_Md_who_18 : decode mi_Md_who.2.1 18 = .ok (.invokevirtual 97, 3) := by decide +kernel
theorem dk_Md_who_21 : decode mi_Md_who.2.1 21 = .ok (.ireturn, 1) := by decide +kernel
theorem dk_Md_who_22 : decode mi_Md_who.2.1 22 = .ok (.aload_n 0, 1) := by decide +kernel
theorem dk_Md_who_23 : decode mi_Md_who.2.1 23 = .ok (.getfield 44, 3) := by decide +kernel
theorem dk_Md_who_26 : decode mi_Md_who.2.1 26 = .ok (.iload_n 1, 1) := by decide +kernel
theorem dk_Md_who_27 : decode mi_Md_who.2.1 27 = .ok (.iaload, 1) := by decide +kernel
theorem dk_Md_who_28 : decode mi_Md_who.2.1 28 = .ok (.iconst 2, 1) := by decide +kernel
theorem dk_Md_who_29 : decode mi_Md_who.2.1 29 = .ok (.if_icmp .eq 13, 3) := by decide +kernel
theorem dk_Md_who_32 : decode mi_Md_who.2.1 32 = .ok (.aload_n 0, 1) := by decide +kernel
theorem dk_Md_who_33 : decode mi_Md_who.2.1 33 = .ok (.getfield 44, 3) := by decide +kernel
theorem dk_Md_who_36 : decode mi_Md_who.2.1 36 = .ok (.iload_n 2, 1) := by decide +kernel
theorem dk_Md_who_37 : decode mi_Md_who.2.1 37 = .ok (.iaload, 1) := by decide +kernel
theorem dk_Md_who_38 : decode mi_Md_who.2.1 38 = .ok (.iconst 2, 1) := by decide +kernel
theorem dk_Md_who_39 : decode mi_Md_who.2.1 39 = .ok (.if_icmp .ne 10, 3) := by decide +kernel
theorem dk_Md_who_42 : decode mi_Md_who.2.1 42 = .ok (.aload_n 0, 1) := by decide +kernel
theorem dk_Md_who_43 : decode mi_Md_who.2.1 43 = .ok (.bipush (-2), 2) := by decide +kernel
theorem dk_Md_who_45 : decode mi_Md_who.2.1 45 = .ok (.invokevirtual 97, 3) := by decide +kernel
theorem dk_Md_who_48 : decode mi_Md_who.2.1 48 = .ok (.ireturn, 1) := by decide +kernel
theorem dk_Md_who_49 : decode mi_Md_who.2.1 49 = .ok (.aload_n 0, 1) := by decide +kernel
theorem dk_Md_who_50 : decode mi_Md_who.2.1 50 = .ok (.getfield 44, 3) := by decide +kernel
theorem dk_Md_who_53 : decode mi_Md_who.2.1 53 = .ok (.iload_n 1, 1) := by decide +kernel
theorem dk_Md_who_54 : decode mi_Md_who.2.1 54 = .ok (.iaload, 1) := by decide +kernel
theorem dk_Md_who_55 : decode mi_Md_who.2.1 55 = .ok (.ifCond .eq 12, 3) := by decide +kernel
theorem dk_Md_who_58 : decode mi_Md_who.2.1 58 = .ok (.aload_n 0, 1) := by decide +kernel
theorem dk_Md_who_59 : decode mi_Md_who.2.1 59 = .ok (.getfield 44, 3) := by decide +kernel
theorem dk_Md_who_62 : decode mi_Md_who.2.1 62 = .ok (.iload_n 2, 1) := by decide +kernel
theorem dk_Md_who_63 : decode mi_Md_who.2.1 63 = .ok (.iaload, 1) := by decide +kernel
theorem dk_Md_who_64 : decode mi_Md_who.2.1 64 = .ok (.ifCond .ne 10, 3) := by decide +kernel
theorem dk_Md_who_67 : decode mi_Md_who.2.1 67 = .ok (.aload_n 0, 1) := by decide +kernel
theorem dk_Md_who_68 : decode mi_Md_who.2.1 68 = .ok (.bipush (-3), 2) := by decide +kernel
theorem dk_Md_who_70 : decode mi_Md_who.2.1 70 = .ok (.invokevirtual 97, 3) := by decide +kernel
theorem dk_Md_who_73 : decode mi_Md_who.2.1 73 = .ok (.ireturn, 1) := by decide +kernel
theorem dk_Md_who_74 : decode mi_Md_who.2.1 74 = .ok (.iload_n 3, 1) := by decide +kernel
theorem dk_Md_who_75 : decode mi_Md_who.2.1 75 = .ok (.ifCond .ge 10, 3) := by decide +kernel
theorem dk_Md_who_78 : decode mi_Md_who.2.1 78 = .ok (.aload_n 0, 1) := by decide +kernel
theorem dk_Md_who_79 : decode mi_Md_who.2.1 79 = .ok (.bipush (-4), 2) := by decide +kernel
theorem dk_Md_who_81 : decode mi_Md_who.2.1 81 = .ok (.invokevirtual 97, 3) := by decide +kernel
theorem dk_Md_who_84 : decode mi_Md_who.2.1 84 = .ok (.ireturn, 1) := by decide +kernel
theorem dk_Md_who_85 : decode mi_Md_who.2.1 85 = .ok (.iload_n 3, 1) := by decide +kernel
theorem dk_Md_who_86 : decode mi_Md_who.2.1 86 = .ok (.aload_n 0, 1) := by decide +kernel
theorem dk_Md_who_87 : decode mi_Md_who.2.1 87 = .ok (.getfield 50, 3) := by decide +kernel
theorem dk_Md_who_90 : decode mi_Md_who.2.1 90 = .ok (.iload_n 1, 1) := by decide +kernel
theorem dk_Md_who_91 : decode mi_Md_who.2.1 91 = .ok (.iaload, 1) := by decide +kernel
theorem dk_Md_who_92 : decode mi_Md_who.2.1 92 = .ok (.if_icmp .gt 13, 3) := by decide +kernel
theorem dk_Md_who_95 : decode mi_Md_who.2.1 95 = .ok (.iload_n 3, 1) := by decide +kernel
theorem dk_Md_who_96 : decode mi_Md_who.2.1 96 = .ok (.aload_n 0, 1) := by decide +kernel
theorem dk_Md_who_97 : decode mi_Md_who.2.1 97 = .ok (.getfield 50, 3) := by decide +kernel
theorem dk_Md_who_100 : decode mi_Md_who.2.1 100 = .ok (.iload_n 2, 1) := by decide +kernel
theorem dk_Md_who_101 : decode mi_Md_who.2.1 101 = .ok (.iaload, 1) := by decide +kernel
theorem dk_Md_who_102 : decode mi_Md_who.2.1 102 = .ok (.if_icmp .le 10, 3) := by decide +kernel
theorem dk_Md_who_105 : decode mi_Md_who.2.1 105 = .ok (.aload_n 0, 1) := by decide +kernel
theorem dk_Md_who_106 : decode mi_Md_who.2.1 106 = .ok (.bipush (-5), 2) := by decide +kernel
theorem dk_Md_who_108 : decode mi_Md_who.2.1 108 = .ok (.invokevirtual 97, 3) := by decide +kernel
theorem dk_Md_who_111 : decode mi_Md_who.2.1 111 = .ok (.ireturn, 1) := by decide +kernel
theorem dk_Md_who_112 : decode mi_Md_who.2.1 112 = .ok (.iload_n 3, 1) := by decide +kernel
theorem dk_Md_who_113 : decode mi_Md_who.2.1 113 = .ok (.iconst 1, 1) := by decide +kernel
theorem dk_Md_who_114 : decode mi_Md_who.2.1 114 = .ok (.if_icmp .lt 9, 3) := by decide +kernel
theorem dk_Md_who_117 : decode mi_Md_who.2.1 117 = .ok (.iload_n 3, 1) := by decide +kernel
theorem dk_Md_who_118 : decode mi_Md_who.2.1 118 = .ok (.bipush 40, 2) := by decide +kernel
theorem dk_Md_who_120 : decode mi_Md_who.2.1 120 = .ok (.if_icmp .le 10, 3) := by decide +kernel
theorem dk_Md_who_123 : decode mi_Md_who.2.1 123 = .ok (.aload_n 0, 1) := by decide +kernel
theorem dk_Md_who_124 : decode mi_Md_who.2.1 124 = .ok (.bipush (-6), 2) := by decide +kernel
theorem dk_Md_who_126 : decode mi_Md_who.2.1 126 = .ok (.invokevirtual 97, 3) := by decide +kernel
theorem dk_Md_who_129 : decode mi_Md_who.2.1 129 = .ok (.ireturn, 1) := by decide +kernel
theorem dk_Md_who_130 : decode mi_Md_who.2.1 130 = .ok (.iconst 1, 1) := by decide +kernel
theorem dk_Md_who_131 : decode mi_Md_who.2.1 131 = .ok (.aload_n 0, 1) := by decide +kernel
theorem dk_Md_who_132 : decode mi_Md_who.2.1 132 = .ok (.getfield 90, 3) := by decide +kernel
theorem dk_Md_who_135 : decode mi_Md_who.2.1 135 = .ok (.ishl, 1) := by decide +kernel
theorem dk_Md_who_136 : decode mi_Md_who.2.1 136 = .ok (.iconst 1, 1) := by decide +kernel
theorem dk_Md_who_137 : decode mi_Md_who.2.1 137 = .ok (.isub, 1) := by decide +kernel
theorem dk_Md_who_138 : decode mi_Md_who.2.1 138 = .ok (.istore 4, 2) := by decide +kernel
theorem dk_Md_who_140 : decode mi_Md_who.2.1 140 = .ok (.iconst 0, 1) := by decide +kernel
theorem dk_Md_who_141 : decode mi_Md_who.2.1 141 = .ok (.istore 5, 2) := by decide +kernel
theorem dk_Md_who_143 : decode mi_Md_who.2.1 143 = .ok (.iload 5, 2) := by decide +kernel
theorem dk_Md_who_145 : decode mi_Md_who.2.1 145 = .ok (.iload_n 3, 1) := by decide +kernel
theorem dk_Md_who_146 : decode mi_Md_who.2.1 146 = .ok (.if_icmp .ge 42, 3) := by decide +kernel
theorem dk_Md_who_149 : decode mi_Md_who.2.1 149 = .ok (.aload_n 0, 1) := by decide +kernel
theorem dk_Md_who_150 : decode mi_Md_who.2.1 150 = .ok (.iload_n 1, 1) := by decide +kernel
theorem dk_Md_who_151 : decode mi_Md_who.2.1 151 = .ok (.iload 5, 2) := by decide +kernel
theorem dk_Md_who_153 : decode mi_Md_who.2.1 153 = .ok (.invokevirtual 230, 3) := by decide +kernel
theorem dk_Md_who_156 : decode mi_Md_who.2.1 156 = .ok (.ifCond .lt 19, 3) := by decide +kernel
theorem dk_Md_who_159 : decode mi_Md_who.2.1 159 = .ok (.aload_n 0, 1) := by decide +kernel
theorem dk_Md_who_160 : decode mi_Md_who.2.1 160 = .ok (.iload_n 1, 1) := by decide +kernel
theorem dk_Md_who_161 : decode mi_Md_who.2.1 161 = .ok (.iload 5, 2) := by decide +kernel
theorem dk_Md_who_163 : decode mi_Md_who.2.1 163 = .ok (.invokevirtual 230, 3) := by decide +kernel
theorem dk_Md_who_166 : decode mi_Md_who.2.1 166 = .ok (.iconst 1, 1) := by decide +kernel
theorem dk_Md_who_167 : decode mi_Md_who.2.1 167 = .ok (.aload_n 0, 1) := by decide +kernel
theorem dk_Md_who_168 : decode mi_Md_who.2.1 168 = .ok (.getfield 90, 3) := by decide +kernel
theorem dk_Md_who_171 : decode mi_Md_who.2.1 171 = .ok (.ishl, 1) := by decide +kernel
theorem dk_Md_who_172 : decode mi_Md_who.2.1 172 = .ok (.if_icmp .lt 10, 3) := by decide +kernel
theorem dk_Md_who_175 : decode mi_Md_who.2.1 175 = .ok (.aload_n 0, 1) := by decide +kernel
theorem dk_Md_who_176 : decode mi_Md_who.2.1 176 = .ok (.bipush (-6), 2) := by decide +kernel
theorem dk_Md_who_178 : decode mi_Md_who.2.1 178 = .ok (.invokevirtual 97, 3) := by decide +kernel
theorem dk_Md_who_181 : decode mi_Md_who.2.1 181 = .ok (.ireturn, 1) := by decide +kernel
theorem dk_Md_who_182 : decode mi_Md_who.2.1 182 = .ok (.iinc 5 1, 3) := by decide +kernel
theorem dk_Md_who_185 : decode mi_Md_who.2.1 185 = .ok (.goto (-42), 3) := by decide +kernel
theorem dk_Md_who_188 : decode mi_Md_who.2.1 188 = .ok (.iconst 0, 1) := by decide +kernel
theorem dk_Md_who_189 : decode mi_Md_who.2.1 189 = .ok (.istore 5, 2) := by decide +kernel
theorem dk_Md_who_191 : decode mi_Md_who.2.1 191 = .ok (.iload 5, 2) := by decide +kernel
theorem dk_Md_who_193 : decode mi_Md_who.2.1 193 = .ok (.iload_n 3, 1) := by decide +kernel
theorem dk_Md_who_194 : decode mi_Md_who.2.1 194 = .ok (.if_icmp .ge 43, 3) := by decide +kernel
theorem dk_Md_who_197 : decode mi_Md_who.2.1 197 = .ok (.iload 4, 2) := by decide +kernel
theorem dk_Md_who_199 : decode mi_Md_who.2.1 199 = .ok (.aload_n 0, 1) := by decide +kernel
theorem dk_Md_who_200 : decode mi_Md_who.2.1 200 = .ok (.iload_n 2, 1) := by decide +kernel
theorem dk_Md_who_201 : decode mi_Md_who.2.1 201 = .ok (.iload 5, 2) := by decide +kernel
theorem dk_Md_who_203 : decode mi_Md_who.2.1 203 = .ok (.invokevirtual 230, 3) := by decide +kernel
theorem dk_Md_who_206 : decode mi_Md_who.2.1 206 = .ok (.ifCond .eq 13, 3) := by decide +kernel
theorem dk_Md_who_209 : decode mi_Md_who.2.1 209 = .ok (.aload_n 0, 1) := by decide +kernel
theorem dk_Md_who_210 : decode mi_Md_who.2.1 210 = .ok (.iload_n 1, 1) := by decide +kernel
theorem dk_Md_who_211 : decode mi_Md_who.2.1 211 = .ok (.iload 5, 2) := by decide +kernel
theorem dk_Md_who_213 : decode mi_Md_who.2.1 213 = .ok (.invokevirtual 230, 3) := by decide +kernel
theorem dk_Md_who_216 : decode mi_Md_who.2.1 216 = .ok (.goto 12, 3) := by decide +kernel
theorem dk_Md_who_219 : decode mi_Md_who.2.1 219 = .ok (.aload_n 0, 1) := by decide +kernel
theorem dk_Md_who_220 : decode mi_Md_who.2.1 220 = .ok (.iload_n 1, 1) := by decide +kernel
theorem dk_Md_who_221 : decode mi_Md_who.2.1 221 = .ok (.iload 5, 2) := by decide +kernel
theorem dk_Md_who_223 : decode mi_Md_who.2.1 223 = .ok (.invokevirtual 230, 3) := by decide +kernel
theorem dk_Md_who_226 : decode mi_Md_who.2.1 226 = .ok (.iconst (-1), 1) := by decide +kernel
theorem dk_Md_who_227 : decode mi_Md_who.2.1 227 = .ok (.ixor, 1) := by decide +kernel
theorem dk_Md_who_228 : decode mi_Md_who.2.1 228 = .ok (.iand, 1) := by decide +kernel
theorem dk_Md_who_229 : decode mi_Md_who.2.1 229 = .ok (.istore 4, 2) := by decide +kernel
theorem dk_Md_who_231 : decode mi_Md_who.2.1 231 = .ok (.iinc 5 1, 3) := by decide +kernel
theorem dk_Md_who_234 : decode mi_Md_who.2.1 234 = .ok (.goto (-43), 3) := by decide +kernel
theorem dk_Md_who_237 : decode mi_Md_who.2.1 237 = .ok (.iload 4, 2) := by decide +kernel
theorem dk_Md_who_239 : decode mi_Md_who.2.1 239 = .ok (.ireturn, 1) := by decide +kernel
def Md_who_l143 (k_188 : Int32 → Int32 → Int32 → Int32 → nm_St → Option (Int32 × nm_St)) : Nat → Int32 → Int32 → Int32 → Int32 → Int32 → nm_St → Option (Int32 × nm_St)
  | 0, _, _, _, _, _, _ => none
  | n + 1, x1, x2, x3, x4, x5, σ =>
    (if x3 ≤ x5 then
      k_188 x1 x2 x3 x4 σ
    else
      ((Md_intAt x1 x5 σ).bind fun q27 =>
      (if q27.1 < 0 then
        ((Md_no (-6 : Int32) q27.2).bind fun q29 =>
        some (q29.1, q29.2))
      else
        ((Md_intAt x1 x5 q27.2).bind fun q30 =>
        (if q30.1 < ((1 : Int32) <<< ((q30.2.1 70 0) &&& 31)) then
          (Md_who_l143 k_188 n) x1 x2 x3 x4 (x5 + (1 : Int32)) q30.2
        else
          ((Md_no (-6 : Int32) q30.2).bind fun q32 =>
          some (q32.1, q32.2)))))))
set_option maxRecDepth 100000 in
set_option maxHeartbeats 4000000 in
theorem r_Md_who_l143 (X : nm_X) (F : nm_F) (hF0 : 1 ≤ nm_d F) (k_188 : Int32 → Int32 → Int32 → Int32 → nm_St → Option (Int32 × nm_St)) (hk_188 : ∀ (x1 : Int32) (x2 : Int32) (x3 : Int32) (x4 : Int32) (σ : nm_St), Rn X mi_Md_who F (nm_Qf X F nm_wI) [(0, .ref 70), (1, .int x1), (2, .int x2), (3, .int x3), (4, .int x4)] [] 188 σ (k_188 x1 x2 x3 x4 σ)) : ∀ (n : Nat) (x1 : Int32) (x2 : Int32) (x3 : Int32) (x4 : Int32) (x5 : Int32) (σ : nm_St), Rn X mi_Md_who F (nm_Qf X F nm_wI) [(0, .ref 70), (1, .int x1), (2, .int x2), (3, .int x3), (4, .int x4), (5, .int x5)] [] 143 σ (Md_who_l143 k_188 n x1 x2 x3 x4 x5 σ) := by
  intro n
  induction n with
  | zero =>
    intro x1 x2 x3 x4 x5 σ
    exact rn_none
  | succ n ih =>
    intro x1 x2 x3 x4 x5 σ
    unfold Md_who_l143
    refine rn_iload (pc := 143) dk_Md_who_143 rfl ?_
    refine rn_iload_n (pc := 145) 3 dk_Md_who_145 rfl rfl ?_
    refine rn_icmp_ge (pc := 146) 188 dk_Md_who_146 (by decide) (fun c26 => ?_) (fun c26 => ?_)
    · exact rn_sub (by rfl) (hk_188 x1 x2 x3 x4 σ)
    · refine rn_aload_n (pc := 149) 0 dk_Md_who_149 rfl rfl rfl ?_
      refine rn_iload_n (pc := 150) 1 dk_Md_who_150 rfl rfl ?_
      refine rn_iload (pc := 151) dk_Md_who_151 rfl ?_
      refine cl_Md_230 (pc := 153) (As := [.int x1, .int x5]) (st := []) rfl (ct_Md_intAt X x1 x5 σ) (Nat.le_trans (Nat.le_of_ble_eq_true rfl) hF0) rfl rfl (Nat.le_of_ble_eq_true rfl) dk_Md_who_153 (fun q27 => ?_)
      refine rn_if_lt (pc := 156) 175 dk_Md_who_156 (by decide) (fun c28 => ?_) (fun c28 => ?_)
      · refine rn_aload_n (pc := 175) 0 dk_Md_who_175 rfl rfl rfl ?_
        refine rn_bipush (pc := 176) (-6 : Int32) dk_Md_who_176 cn_b_m6 ?_
        refine cl_Md_97 (pc := 178) (As := [.int (-6 : Int32)]) (st := []) rfl (ct_Md_no X (-6 : Int32) q27.2) (Nat.le_trans (Nat.le_of_ble_eq_true rfl) hF0) rfl rfl (Nat.le_of_ble_eq_true rfl) dk_Md_who_178 (fun q29 => ?_)
        exact rn_iret rfl dk_Md_who_181
      · refine rn_aload_n (pc := 159) 0 dk_Md_who_159 rfl rfl rfl ?_
        refine rn_iload_n (pc := 160) 1 dk_Md_who_160 rfl rfl ?_
        refine rn_iload (pc := 161) dk_Md_who_161 rfl ?_
        refine cl_Md_230 (pc := 163) (As := [.int x1, .int x5]) (st := []) rfl (ct_Md_intAt X x1 x5 q27.2) (Nat.le_trans (Nat.le_of_ble_eq_true rfl) hF0) rfl rfl (Nat.le_of_ble_eq_true rfl) dk_Md_who_163 (fun q30 => ?_)
        refine rn_iconst (pc := 166) (1 : Int32) dk_Md_who_166 cn_i_1 ?_
        refine rn_aload_n (pc := 167) 0 dk_Md_who_167 rfl rfl rfl ?_
        refine gf_Md_90 (pc := 168) rfl dk_Md_who_168 ?_
        refine rn_ishl (pc := 171) dk_Md_who_171 ?_
        refine rn_icmp_lt (pc := 172) 182 dk_Md_who_172 (by decide) (fun c31 => ?_) (fun c31 => ?_)
        · refine rn_iinc (pc := 182) (1 : Int32) dk_Md_who_182 cn_i_1 rfl rfl rfl ?_
          refine rn_goto (pc := 185) 143 dk_Md_who_185 (by decide) ?_
          exact rn_sub (by rfl) (ih x1 x2 x3 x4 (x5 + (1 : Int32)) q30.2)
        · refine rn_aload_n (pc := 175) 0 dk_Md_who_175 rfl rfl rfl ?_
          refine rn_bipush (pc := 176) (-6 : Int32) dk_Md_who_176 cn_b_m6 ?_
          refine cl_Md_97 (pc := 178) (As := [.int (-6 : Int32)]) (st := []) rfl (ct_Md_no X (-6 : Int32) q30.2) (Nat.le_trans (Nat.le_of_ble_eq_true rfl) hF0) rfl rfl (Nat.le_of_ble_eq_true rfl) dk_Md_who_178 (fun q32 => ?_)
          exact rn_iret rfl dk_Md_who_181
def Md_who_l191 (k_237 : Int32 → nm_St → Option (Int32 × nm_St)) : Nat → Int32 → Int32 → Int32 → Int32 → Int32 → nm_St → Option (Int32 × nm_St)
  | 0, _, _, _, _, _, _ => none
  | n + 1, x1, x2, x3, x4, x5, σ =>
    (if x3 ≤ x5 then
      k_237 x4 σ
    else
      ((Md_intAt x2 x5 σ).bind fun q39 =>
      (if q39.1 = 0 then
        ((Md_intAt x1 x5 q39.2).bind fun q41 =>
        (nm_let ((x4 &&& (q41.1 ^^^ (-1 : Int32)))) fun v42 =>
        (Md_who_l191 k_237 n) x1 x2 x3 v42 (x5 + (1 : Int32)) q41.2))
      else
        ((Md_intAt x1 x5 q39.2).bind fun q43 =>
        (Md_who_l191 k_237 n) x1 x2 x3 (x4 &&& q43.1) (x5 + (1 : Int32)) q43.2))))
set_option maxRecDepth 100000 in
set_option maxHeartbeats 4000000 in
theorem r_Md_who_l191 (X : nm_X) (F : nm_F) (hF0 : 1 ≤ nm_d F) (k_237 : Int32 → nm_St → Option (Int32 × nm_St)) (hk_237 : ∀ (x4 : Int32) (σ : nm_St), Rn X mi_Md_who F (nm_Qf X F nm_wI) [(4, .int x4)] [] 237 σ (k_237 x4 σ)) : ∀ (n : Nat) (x1 : Int32) (x2 : Int32) (x3 : Int32) (x4 : Int32) (x5 : Int32) (σ : nm_St), Rn X mi_Md_who F (nm_Qf X F nm_wI) [(0, .ref 70), (1, .int x1), (2, .int x2), (3, .int x3), (4, .int x4), (5, .int x5)] [] 191 σ (Md_who_l191 k_237 n x1 x2 x3 x4 x5 σ) := by
  intro n
  induction n with
  | zero =>
    intro x1 x2 x3 x4 x5 σ
    exact rn_none
  | succ n ih =>
    intro x1 x2 x3 x4 x5 σ
    unfold Md_who_l191
    refine rn_iload (pc := 191) dk_Md_who_191 rfl ?_
    refine rn_iload_n (pc := 193) 3 dk_Md_who_193 rfl rfl ?_
    refine rn_icmp_ge (pc := 194) 237 dk_Md_who_194 (by decide) (fun c38 => ?_) (fun c38 => ?_)
    · exact rn_sub (by rfl) (hk_237 x4 σ)
    · refine rn_iload (pc := 197) dk_Md_who_197 rfl ?_
      refine rn_aload_n (pc := 199) 0 dk_Md_who_199 rfl rfl rfl ?_
      refine rn_iload_n (pc := 200) 2 dk_Md_who_200 rfl rfl ?_
      refine rn_iload (pc := 201) dk_Md_who_201 rfl ?_
      refine cl_Md_230 (pc := 203) (As := [.int x2, .int x5]) (st := [.int x4]) rfl (ct_Md_intAt X x2 x5 σ) (Nat.le_trans (Nat.le_of_ble_eq_true rfl) hF0) rfl rfl (Nat.le_of_ble_eq_true rfl) dk_Md_who_203 (fun q39 => ?_)
      refine rn_if_eq (pc := 206) 219 dk_Md_who_206 (by decide) (fun c40 => ?_) (fun c40 => ?_)
      · refine rn_aload_n (pc := 219) 0 dk_Md_who_219 rfl rfl rfl ?_
        refine rn_iload_n (pc := 220) 1 dk_Md_who_220 rfl rfl ?_
        refine rn_iload (pc := 221) dk_Md_who_221 rfl ?_
        refine cl_Md_230 (pc := 223) (As := [.int x1, .int x5]) (st := [.int x4]) rfl (ct_Md_intAt X x1 x5 q39.2) (Nat.le_trans (Nat.le_of_ble_eq_true rfl) hF0) rfl rfl (Nat.le_of_ble_eq_true rfl) dk_Md_who_223 (fun q41 => ?_)
        refine rn_iconst (pc := 226) (-1 : Int32) dk_Md_who_226 cn_i_m1 ?_
        refine rn_ixor (pc := 227) dk_Md_who_227 ?_
        refine rn_iand (pc := 228) dk_Md_who_228 ?_
        refine rn_leti (fun v42 => ?_)
        refine rn_istore (pc := 229) dk_Md_who_229 rfl rfl ?_
        refine rn_iinc (pc := 231) (1 : Int32) dk_Md_who_231 cn_i_1 rfl rfl rfl ?_
        refine rn_goto (pc := 234) 191 dk_Md_who_234 (by decide) ?_
        exact rn_sub (by rfl) (ih x1 x2 x3 v42 (x5 + (1 : Int32)) q41.2)
      · refine rn_aload_n (pc := 209) 0 dk_Md_who_209 rfl rfl rfl ?_
        refine rn_iload_n (pc := 210) 1 dk_Md_who_210 rfl rfl ?_
        refine rn_iload (pc := 211) dk_Md_who_211 rfl ?_
        refine cl_Md_230 (pc := 213) (As := [.int x1, .int x5]) (st := [.int x4]) rfl (ct_Md_intAt X x1 x5 q39.2) (Nat.le_trans (Nat.le_of_ble_eq_true rfl) hF0) rfl rfl (Nat.le_of_ble_eq_true rfl) dk_Md_who_213 (fun q43 => ?_)
        refine rn_goto (pc := 216) 228 dk_Md_who_216 (by decide) ?_
        refine rn_iand (pc := 228) dk_Md_who_228 ?_
        refine rn_istore (pc := 229) dk_Md_who_229 rfl rfl ?_
        refine rn_iinc (pc := 231) (1 : Int32) dk_Md_who_231 cn_i_1 rfl rfl rfl ?_
        refine rn_goto (pc := 234) 191 dk_Md_who_234 (by decide) ?_
        exact rn_sub (by rfl) (ih x1 x2 x3 (x4 &&& q43.1) (x5 + (1 : Int32)) q43.2)
def Md_who (p1 : Int32) (p2 : Int32) (p3 : Int32) (σ : nm_St) : Option (Int32 × nm_St) :=
  ((Md_isShelf p1 σ).bind fun q1 =>
  (if q1.1 = 0 then
    ((Md_no (-1 : Int32) q1.2).bind fun q3 =>
    some (q3.1, q3.2))
  else
    ((Md_isShelf p2 q1.2).bind fun q4 =>
    (if q4.1 = 0 then
      ((Md_no (-1 : Int32) q4.2).bind fun q51 =>
      some (q51.1, q51.2))
    else
      (nm_g (nm_in p1 8) (
      (if (q4.2.1 78 p1.toNatClampNeg) = (2 : Int32) then
        ((Md_no (-2 : Int32) q4.2).bind fun q8 =>
        some (q8.1, q8.2))
      else
        (nm_g (nm_in p2 8) (
        (if (q4.2.1 78 p2.toNatClampNeg) = (2 : Int32) then
          ((Md_no (-2 : Int32) q4.2).bind fun q50 =>
          some (q50.1, q50.2))
        else
          (nm_g (nm_in p1 8) (
          (if (q4.2.1 78 p1.toNatClampNeg) = 0 then
            ((Md_no (-3 : Int32) q4.2).bind fun q13 =>
            some (q13.1, q13.2))
          else
            (nm_g (nm_in p2 8) (
            (if (q4.2.1 78 p2.toNatClampNeg) = 0 then
              ((Md_no (-3 : Int32) q4.2).bind fun q49 =>
              some (q49.1, q49.2))
            else
              (if 0 ≤ p3 then
                (nm_g (nm_in p1 8) (
                (if (q4.2.1 80 p1.toNatClampNeg) < p3 then
                  ((Md_no (-5 : Int32) q4.2).bind fun q19 =>
                  some (q19.1, q19.2))
                else
                  (nm_g (nm_in p2 8) (
                  (if p3 ≤ (q4.2.1 80 p2.toNatClampNeg) then
                    (if p3 < (1 : Int32) then
                      ((Md_no (-6 : Int32) q4.2).bind fun q23 =>
                      some (q23.1, q23.2))
                    else
                      (if p3 ≤ (40 : Int32) then
                        (nm_let ((((1 : Int32) <<< ((q4.2.1 70 0) &&& 31)) - (1 : Int32))) fun v25 =>
                        Md_who_l143 (fun (e34 : Int32) (e35 : Int32) (e36 : Int32) (e37 : Int32) (s33 : nm_St) =>
                          Md_who_l191 (fun (e45 : Int32) (s44 : nm_St) =>
                            some (e45, s44)) 400 e34 e35 e36 e37 (0 : Int32) s33) 400 p1 p2 p3 v25 (0 : Int32) q4.2)
                      else
                        ((Md_no (-6 : Int32) q4.2).bind fun q46 =>
                        some (q46.1, q46.2))))
                  else
                    ((Md_no (-5 : Int32) q4.2).bind fun q47 =>
                    some (q47.1, q47.2))))))))
              else
                ((Md_no (-4 : Int32) q4.2).bind fun q48 =>
                some (q48.1, q48.2)))))))))))))))))))
set_option maxRecDepth 100000 in
set_option maxHeartbeats 4000000 in
theorem ct_Md_who (X : nm_X) (p1 : Int32) (p2 : Int32) (p3 : Int32) (σ : nm_St) : Ct X mi_Md_who 1 nm_wI [.ref 70, .int p1, .int p2, .int p3] σ (Md_who p1 p2 p3 σ) := by
  refine Ct.of (by decide +kernel) rfl (fun F hF0 => ?_)
  unfold Md_who
  refine rn_aload_n (pc := 0) 0 dk_Md_who_0 rfl rfl rfl ?_
  refine rn_iload_n (pc := 1) 1 dk_Md_who_1 rfl rfl ?_
  refine cl_Md_93 (pc := 2) (As := [.int p1]) (st := []) rfl (ct_Md_isShelf X p1 σ) (Nat.le_trans (Nat.le_of_ble_eq_true rfl) hF0) rfl rfl (Nat.le_of_ble_eq_true rfl) dk_Md_who_2 (fun q1 => ?_)
  refine rn_if_eq (pc := 5) 16 dk_Md_who_5 (by decide) (fun c2 => ?_) (fun c2 => ?_)
  · refine rn_aload_n (pc := 16) 0 dk_Md_who_16 rfl rfl rfl ?_
    refine rn_iconst (pc := 17) (-1 : Int32) dk_Md_who_17 cn_i_m1 ?_
    refine cl_Md_97 (pc := 18) (As := [.int (-1 : Int32)]) (st := []) rfl (ct_Md_no X (-1 : Int32) q1.2) (Nat.le_trans (Nat.le_of_ble_eq_true rfl) hF0) rfl rfl (Nat.le_of_ble_eq_true rfl) dk_Md_who_18 (fun q3 => ?_)
    exact rn_iret rfl dk_Md_who_21
  · refine rn_aload_n (pc := 8) 0 dk_Md_who_8 rfl rfl rfl ?_
    refine rn_iload_n (pc := 9) 2 dk_Md_who_9 rfl rfl ?_
    refine cl_Md_93 (pc := 10) (As := [.int p2]) (st := []) rfl (ct_Md_isShelf X p2 q1.2) (Nat.le_trans (Nat.le_of_ble_eq_true rfl) hF0) rfl rfl (Nat.le_of_ble_eq_true rfl) dk_Md_who_10 (fun q4 => ?_)
    refine rn_if_ne (pc := 13) 22 dk_Md_who_13 (by decide) (fun c5 => ?_) (fun c5 => ?_)
    · refine rn_aload_n (pc := 22) 0 dk_Md_who_22 rfl rfl rfl ?_
      refine gf_Md_44 (pc := 23) rfl dk_Md_who_23 ?_
      refine rn_iload_n (pc := 26) 1 dk_Md_who_26 rfl rfl ?_
      refine rn_iaload (pc := 27) rfl dk_Md_who_27 (fun g6 => ?_)
      refine rn_iconst (pc := 28) (2 : Int32) dk_Md_who_28 cn_i_2 ?_
      refine rn_icmp_eq (pc := 29) 42 dk_Md_who_29 (by decide) (fun c7 => ?_) (fun c7 => ?_)
      · refine rn_aload_n (pc := 42) 0 dk_Md_who_42 rfl rfl rfl ?_
        refine rn_bipush (pc := 43) (-2 : Int32) dk_Md_who_43 cn_b_m2 ?_
        refine cl_Md_97 (pc := 45) (As := [.int (-2 : Int32)]) (st := []) rfl (ct_Md_no X (-2 : Int32) q4.2) (Nat.le_trans (Nat.le_of_ble_eq_true rfl) hF0) rfl rfl (Nat.le_of_ble_eq_true rfl) dk_Md_who_45 (fun q8 => ?_)
        exact rn_iret rfl dk_Md_who_48
      · refine rn_aload_n (pc := 32) 0 dk_Md_who_32 rfl rfl rfl ?_
        refine gf_Md_44 (pc := 33) rfl dk_Md_who_33 ?_
        refine rn_iload_n (pc := 36) 2 dk_Md_who_36 rfl rfl ?_
        refine rn_iaload (pc := 37) rfl dk_Md_who_37 (fun g9 => ?_)
        refine rn_iconst (pc := 38) (2 : Int32) dk_Md_who_38 cn_i_2 ?_
        refine rn_icmp_ne (pc := 39) 49 dk_Md_who_39 (by decide) (fun c10 => ?_) (fun c10 => ?_)
        · refine rn_aload_n (pc := 49) 0 dk_Md_who_49 rfl rfl rfl ?_
          refine gf_Md_44 (pc := 50) rfl dk_Md_who_50 ?_
          refine rn_iload_n (pc := 53) 1 dk_Md_who_53 rfl rfl ?_
          refine rn_iaload (pc := 54) rfl dk_Md_who_54 (fun g11 => ?_)
          refine rn_if_eq (pc := 55) 67 dk_Md_who_55 (by decide) (fun c12 => ?_) (fun c12 => ?_)
          · refine rn_aload_n (pc := 67) 0 dk_Md_who_67 rfl rfl rfl ?_
            refine rn_bipush (pc := 68) (-3 : Int32) dk_Md_who_68 cn_b_m3 ?_
            refine cl_Md_97 (pc := 70) (As := [.int (-3 : Int32)]) (st := []) rfl (ct_Md_no X (-3 : Int32) q4.2) (Nat.le_trans (Nat.le_of_ble_eq_true rfl) hF0) rfl rfl (Nat.le_of_ble_eq_true rfl) dk_Md_who_70 (fun q13 => ?_)
            exact rn_iret rfl dk_Md_who_73
          · refine rn_aload_n (pc := 58) 0 dk_Md_who_58 rfl rfl rfl ?_
            refine gf_Md_44 (pc := 59) rfl dk_Md_who_59 ?_
            refine rn_iload_n (pc := 62) 2 dk_Md_who_62 rfl rfl ?_
            refine rn_iaload (pc := 63) rfl dk_Md_who_63 (fun g14 => ?_)
            refine rn_if_ne (pc := 64) 74 dk_Md_who_64 (by decide) (fun c15 => ?_) (fun c15 => ?_)
            · refine rn_iload_n (pc := 74) 3 dk_Md_who_74 rfl rfl ?_
              refine rn_if_ge (pc := 75) 85 dk_Md_who_75 (by decide) (fun c16 => ?_) (fun c16 => ?_)
              · refine rn_iload_n (pc := 85) 3 dk_Md_who_85 rfl rfl ?_
                refine rn_aload_n (pc := 86) 0 dk_Md_who_86 rfl rfl rfl ?_
                refine gf_Md_50 (pc := 87) rfl dk_Md_who_87 ?_
                refine rn_iload_n (pc := 90) 1 dk_Md_who_90 rfl rfl ?_
                refine rn_iaload (pc := 91) rfl dk_Md_who_91 (fun g17 => ?_)
                refine rn_icmp_gt (pc := 92) 105 dk_Md_who_92 (by decide) (fun c18 => ?_) (fun c18 => ?_)
                · refine rn_aload_n (pc := 105) 0 dk_Md_who_105 rfl rfl rfl ?_
                  refine rn_bipush (pc := 106) (-5 : Int32) dk_Md_who_106 cn_b_m5 ?_
                  refine cl_Md_97 (pc := 108) (As := [.int (-5 : Int32)]) (st := []) rfl (ct_Md_no X (-5 : Int32) q4.2) (Nat.le_trans (Nat.le_of_ble_eq_true rfl) hF0) rfl rfl (Nat.le_of_ble_eq_true rfl) dk_Md_who_108 (fun q19 => ?_)
                  exact rn_iret rfl dk_Md_who_111
                · refine rn_iload_n (pc := 95) 3 dk_Md_who_95 rfl rfl ?_
                  refine rn_aload_n (pc := 96) 0 dk_Md_who_96 rfl rfl rfl ?_
                  refine gf_Md_50 (pc := 97) rfl dk_Md_who_97 ?_
                  refine rn_iload_n (pc := 100) 2 dk_Md_who_100 rfl rfl ?_
                  refine rn_iaload (pc := 101) rfl dk_Md_who_101 (fun g20 => ?_)
                  refine rn_icmp_le (pc := 102) 112 dk_Md_who_102 (by decide) (fun c21 => ?_) (fun c21 => ?_)
                  · refine rn_iload_n (pc := 112) 3 dk_Md_who_112 rfl rfl ?_
                    refine rn_iconst (pc := 113) (1 : Int32) dk_Md_who_113 cn_i_1 ?_
                    refine rn_icmp_lt (pc := 114) 123 dk_Md_who_114 (by decide) (fun c22 => ?_) (fun c22 => ?_)
                    · refine rn_aload_n (pc := 123) 0 dk_Md_who_123 rfl rfl rfl ?_
                      refine rn_bipush (pc := 124) (-6 : Int32) dk_Md_who_124 cn_b_m6 ?_
                      refine cl_Md_97 (pc := 126) (As := [.int (-6 : Int32)]) (st := []) rfl (ct_Md_no X (-6 : Int32) q4.2) (Nat.le_trans (Nat.le_of_ble_eq_true rfl) hF0) rfl rfl (Nat.le_of_ble_eq_true rfl) dk_Md_who_126 (fun q23 => ?_)
                      exact rn_iret rfl dk_Md_who_129
                    · refine rn_iload_n (pc := 117) 3 dk_Md_who_117 rfl rfl ?_
                      refine rn_bipush (pc := 118) (40 : Int32) dk_Md_who_118 cn_b_40 ?_
                      refine rn_icmp_le (pc := 120) 130 dk_Md_who_120 (by decide) (fun c24 => ?_) (fun c24 => ?_)
                      · refine rn_iconst (pc := 130) (1 : Int32) dk_Md_who_130 cn_i_1 ?_
                        refine rn_aload_n (pc := 131) 0 dk_Md_who_131 rfl rfl rfl ?_
                        refine gf_Md_90 (pc := 132) rfl dk_Md_who_132 ?_
                        refine rn_ishl (pc := 135) dk_Md_who_135 ?_
                        refine rn_iconst (pc := 136) (1 : Int32) dk_Md_who_136 cn_i_1 ?_
                        refine rn_isub (pc := 137) dk_Md_who_137 ?_
                        refine rn_leti (fun v25 => ?_)
                        refine rn_istore (pc := 138) dk_Md_who_138 rfl rfl ?_
                        refine rn_iconst (pc := 140) (0 : Int32) dk_Md_who_140 cn_i_0 ?_
                        refine rn_istore (pc := 141) dk_Md_who_141 rfl rfl ?_
                        refine rn_sub (by rfl) (r_Md_who_l143 X F hF0 _ (fun e34 e35 e36 e37 s33 => ?_) 400 p1 p2 p3 v25 (0 : Int32) q4.2)
                        refine rn_iconst (pc := 188) (0 : Int32) dk_Md_who_188 cn_i_0 ?_
                        refine rn_istore (pc := 189) dk_Md_who_189 rfl rfl ?_
                        refine rn_sub (by rfl) (r_Md_who_l191 X F hF0 _ (fun e45 s44 => ?_) 400 e34 e35 e36 e37 (0 : Int32) s33)
                        refine rn_iload (pc := 237) dk_Md_who_237 rfl ?_
                        exact rn_iret rfl dk_Md_who_239
                      · refine rn_aload_n (pc := 123) 0 dk_Md_who_123 rfl rfl rfl ?_
                        refine rn_bipush (pc := 124) (-6 : Int32) dk_Md_who_124 cn_b_m6 ?_
                        refine cl_Md_97 (pc := 126) (As := [.int (-6 : Int32)]) (st := []) rfl (ct_Md_no X (-6 : Int32) q4.2) (Nat.le_trans (Nat.le_of_ble_eq_true rfl) hF0) rfl rfl (Nat.le_of_ble_eq_true rfl) dk_Md_who_126 (fun q46 => ?_)
                        exact rn_iret rfl dk_Md_who_129
                  · refine rn_aload_n (pc := 105) 0 dk_Md_who_105 rfl rfl rfl ?_
                    refine rn_bipush (pc := 106) (-5 : Int32) dk_Md_who_106 cn_b_m5 ?_
                    refine cl_Md_97 (pc := 108) (As := [.int (-5 : Int32)]) (st := []) rfl (ct_Md_no X (-5 : Int32) q4.2) (Nat.le_trans (Nat.le_of_ble_eq_true rfl) hF0) rfl rfl (Nat.le_of_ble_eq_true rfl) dk_Md_who_108 (fun q47 => ?_)
                    exact rn_iret rfl dk_Md_who_111
              · refine rn_aload_n (pc := 78) 0 dk_Md_who_78 rfl rfl rfl ?_
                refine rn_bipush (pc := 79) (-4 : Int32) dk_Md_who_79 cn_b_m4 ?_
                refine cl_Md_97 (pc := 81) (As := [.int (-4 : Int32)]) (st := []) rfl (ct_Md_no X (-4 : Int32) q4.2) (Nat.le_trans (Nat.le_of_ble_eq_true rfl) hF0) rfl rfl (Nat.le_of_ble_eq_true rfl) dk_Md_who_81 (fun q48 => ?_)
                exact rn_iret rfl dk_Md_who_84
            · refine rn_aload_n (pc := 67) 0 dk_Md_who_67 rfl rfl rfl ?_
              refine rn_bipush (pc := 68) (-3 : Int32) dk_Md_who_68 cn_b_m3 ?_
              refine cl_Md_97 (pc := 70) (As := [.int (-3 : Int32)]) (st := []) rfl (ct_Md_no X (-3 : Int32) q4.2) (Nat.le_trans (Nat.le_of_ble_eq_true rfl) hF0) rfl rfl (Nat.le_of_ble_eq_true rfl) dk_Md_who_70 (fun q49 => ?_)
              exact rn_iret rfl dk_Md_who_73
        · refine rn_aload_n (pc := 42) 0 dk_Md_who_42 rfl rfl rfl ?_
          refine rn_bipush (pc := 43) (-2 : Int32) dk_Md_who_43 cn_b_m2 ?_
          refine cl_Md_97 (pc := 45) (As := [.int (-2 : Int32)]) (st := []) rfl (ct_Md_no X (-2 : Int32) q4.2) (Nat.le_trans (Nat.le_of_ble_eq_true rfl) hF0) rfl rfl (Nat.le_of_ble_eq_true rfl) dk_Md_who_45 (fun q50 => ?_)
          exact rn_iret rfl dk_Md_who_48
    · refine rn_aload_n (pc := 16) 0 dk_Md_who_16 rfl rfl rfl ?_
      refine rn_iconst (pc := 17) (-1 : Int32) dk_Md_who_17 cn_i_m1 ?_
      refine cl_Md_97 (pc := 18) (As := [.int (-1 : Int32)]) (st := []) rfl (ct_Md_no X (-1 : Int32) q4.2) (Nat.le_trans (Nat.le_of_ble_eq_true rfl) hF0) rfl rfl (Nat.le_of_ble_eq_true rfl) dk_Md_who_18 (fun q51 => ?_)
      exact rn_iret rfl dk_Md_who_21
theorem dk_Md_can_0 : decode mi_Md_can.2.1 0 = .ok (.iload_n 1, 1) := by decide +kernel
theorem dk_Md_can_1 : decode mi_Md_can.2.1 1 = .ok (.ifCond .ne 5, 3) := by decide +kernel
theorem dk_Md_can_4 : decode mi_Md_can.2.1 4 = .ok (.iconst 1, 1) := by decide +kernel
theorem dk_Md_can_5 : decode mi_Md_can.2.1 5 = .ok (.ireturn, 1) := by decide +kernel
theorem dk_Md_can_6 : decode mi_Md_can.2.1 6 = .ok (.iload_n 1, 1) := by decide +kernel
theorem dk_Md_can_7 : decode mi_Md_can.2.1 7 = .ok (.bipush 100, 2) := by decide +kernel
theorem dk_Md_can_9 : decode mi_Md_can.2.1 9 = .ok (.irem, 1) := by decide +kernel
theorem dk_Md_can_10 : decode mi_Md_can.2.1 10 = .ok (.istore_n 2, 1) := by decide +kernel
theorem dk_Md_can_11 : decode mi_Md_can.2.1 11 = .ok (.iload_n 1, 1) := by decide +kernel
theorem dk_Md_can_12 : decode mi_Md_can.2.1 12 = .ok (.bipush 100, 2) := by decide +kernel
theorem dk_Md_can_14 : decode mi_Md_can.2.1 14 = .ok (.idiv, 1) := by decide +kernel
theorem dk_Md_can_15 : decode mi_Md_can.2.1 15 = .ok (.istore_n 3, 1) := by decide +kernel
theorem dk_Md_can_16 : decode mi_Md_can.2.1 16 = .ok (.iload_n 1, 1) := by decide +kernel
theorem dk_Md_can_17 : decode mi_Md_can.2.1 17 = .ok (.bipush 100, 2) := by decide +kernel
theorem dk_Md_can_19 : decode mi_Md_can.2.1 19 = .ok (.if_icmp .lt 16, 3) := by decide +kernel
theorem dk_Md_can_22 : decode mi_Md_can.2.1 22 = .ok (.iload_n 3, 1) := by decide +kernel
theorem dk_Md_can_23 : decode mi_Md_can.2.1 23 = .ok (.iconst 4, 1) := by decide +kernel
theorem dk_Md_can_24 : decode mi_Md_can.2.1 24 = .ok (.if_icmp .gt 11, 3) := by decide +kernel
theorem dk_Md_can_27 : decode mi_Md_can.2.1 27 = .ok (.aload_n 0, 1) := by decide +kernel
theorem dk_Md_can_28 : decode mi_Md_can.2.1 28 = .ok (.iload_n 2, 1) := by decide +kernel
theorem dk_Md_can_29 : decode mi_Md_can.2.1 29 = .ok (.invokevirtual 101, 3) := by decide +kernel
theorem dk_Md_can_32 : decode mi_Md_can.2.1 32 = .ok (.ifCond .ne 5, 3) := by decide +kernel
theorem dk_Md_can_35 : decode mi_Md_can.2.1 35 = .ok (.iconst 0, 1) := by decide +kernel
theorem dk_Md_can_36 : decode mi_Md_can.2.1 36 = .ok (.ireturn, 1) := by decide +kernel
theorem dk_Md_can_37 : decode mi_Md_can.2.1 37 = .ok (.iload_n 3, 1) := by decide +kernel
theorem dk_Md_can_38 : decode mi_Md_can.2.1 38 = .ok (.iconst 1, 1) := by decide +kernel
theorem dk_Md_can_39 : decode mi_Md_can.2.1 39 = .ok (.if_icmp .ne 32, 3) := by decide +kernel
theorem dk_Md_can_42 : decode mi_Md_can.2.1 42 = .ok (.aload_n 0, 1) := by decide +kernel
theorem dk_Md_can_43 : decode mi_Md_can.2.1 43 = .ok (.getfield 41, 3) := by decide +kernel
theorem dk_Md_can_46 : decode mi_Md_can.2.1 46 = .ok (.iload_n 2, 1) := by decide +kernel
theorem dk_Md_can_47 : decode mi_Md_can.2.1 47 = .ok (.iaload, 1) := by decide +kernel
theorem dk_Md_can_48 : decode mi_Md_can.2.1 48 = .ok (.ifCond .ne 19, 3) := by decide +kernel
theorem dk_Md_can_51 : decode mi_Md_can.2.1 51 = .ok (.aload_n 0, 1) := by decide +kernel
theorem dk_Md_can_52 : decode mi_Md_can.2.1 52 = .ok (.iload_n 2, 1) := by decide +kernel
theorem dk_Md_can_53 : decode mi_Md_can.2.1 53 = .ok (.invokevirtual 107, 3) := by decide +kernel
theorem dk_Md_can_56 : decode mi_Md_can.2.1 56 = .ok (.aload_n 0, 1) := by decide +kernel
theorem dk_Md_can_57 : decode mi_Md_can.2.1 57 = .ok (.getfield 13, 3) := by decide +kernel
theorem dk_Md_can_60 : decode mi_Md_can.2.1 60 = .ok (.if_icmp .gt 7, 3) := by decide +kernel
theorem dk_Md_can_63 : decode mi_Md_can.2.1 63 = .ok (.iconst 1, 1) := by decide +kernel
theorem dk_Md_can_64 : decode mi_Md_can.2.1 64 = .ok (.goto 15, 3) := by decide +kernel
theorem dk_Md_can_67 : decode mi_Md_can.2.1 67 = .ok (.iconst 0, 1) := by decide +kernel
theorem dk_Md_can_68 : decode mi_Md_can.2.1 68 = .ok (.goto 11, 3) := by decide +kernel
theorem dk_Md_can_71 : decode mi_Md_can.2.1 71 = .ok (.aload_n 0, 1) := by decide +kernel
theorem dk_Md_can_72 : decode mi_Md_can.2.1 72 = .ok (.iload_n 2, 1) := by decide +kernel
theorem dk_Md_can_73 : decode mi_Md_can.2.1 73 = .ok (.iload_n 3, 1) := by decide +kernel
theorem dk_Md_can_74 : decode mi_Md_can.2.1 74 = .ok (.iconst 2, 1) := by decide +kernel
theorem dk_Md_can_75 : decode mi_Md_can.2.1 75 = .ok (.isub, 1) := by decide +kernel
theorem dk_Md_can_76 : decode mi_Md_can.2.1 76 = .ok (.invokevirtual 221, 3) := by decide +kernel
theorem dk_Md_can_79 : decode mi_Md_can.2.1 79 = .ok (.ireturn, 1) := by decide +kernel
def Md_can (p1 : Int32) (σ : nm_St) : Option (Int32 × nm_St) :=
  (if p1 = 0 then
    some ((1 : Int32), σ)
  else
    (nm_g (!decide ((100 : Int32) = 0)) (
    (nm_let ((p1 - p1 / (100 : Int32) * (100 : Int32))) fun v2 =>
    (nm_g (!decide ((100 : Int32) = 0)) (
    (nm_let ((p1 / (100 : Int32))) fun v3 =>
    (if p1 < (100 : Int32) then
      some ((0 : Int32), σ)
    else
      (if (4 : Int32) < v3 then
        some ((0 : Int32), σ)
      else
        ((Md_isMaker v2 σ).bind fun q6 =>
        (if q6.1 = 0 then
          some ((0 : Int32), q6.2)
        else
          (if v3 = (1 : Int32) then
            (nm_g (nm_in v2 8) (
            (if (q6.2.1 77 v2.toNatClampNeg) = 0 then
              ((Md_price v2 q6.2).bind fun q13 =>
              (if (q13.2.1 70 3) < q13.1 then
                some ((0 : Int32), q13.2)
              else
                some ((1 : Int32), q13.2)))
            else
              some ((0 : Int32), q6.2))))
          else
            ((Md_mayDeed v2 (v3 - (2 : Int32)) q6.2).bind fun q9 =>
            (nm_g (nm_bz q9.1) (
            some (q9.1, q9.2))))))))))))))))
set_option maxRecDepth 100000 in
set_option maxHeartbeats 4000000 in
theorem ct_Md_can (X : nm_X) (p1 : Int32) (σ : nm_St) : Ct X mi_Md_can 3 nm_wI [.ref 70, .int p1] σ (Md_can p1 σ) := by
  refine Ct.of (by decide +kernel) rfl (fun F hF0 => ?_)
  unfold Md_can
  refine rn_iload_n (pc := 0) 1 dk_Md_can_0 rfl rfl ?_
  refine rn_if_ne (pc := 1) 6 dk_Md_can_1 (by decide) (fun c1 => ?_) (fun c1 => ?_)
  · refine rn_iload_n (pc := 6) 1 dk_Md_can_6 rfl rfl ?_
    refine rn_bipush (pc := 7) (100 : Int32) dk_Md_can_7 cn_b_100 ?_
    refine rn_irem (pc := 9) dk_Md_can_9 ?_
    refine rn_leti (fun v2 => ?_)
    refine rn_istore_n (pc := 10) 2 dk_Md_can_10 rfl rfl rfl ?_
    refine rn_iload_n (pc := 11) 1 dk_Md_can_11 rfl rfl ?_
    refine rn_bipush (pc := 12) (100 : Int32) dk_Md_can_12 cn_b_100 ?_
    refine rn_idiv (pc := 14) dk_Md_can_14 ?_
    refine rn_leti (fun v3 => ?_)
    refine rn_istore_n (pc := 15) 3 dk_Md_can_15 rfl rfl rfl ?_
    refine rn_iload_n (pc := 16) 1 dk_Md_can_16 rfl rfl ?_
    refine rn_bipush (pc := 17) (100 : Int32) dk_Md_can_17 cn_b_100 ?_
    refine rn_icmp_lt (pc := 19) 35 dk_Md_can_19 (by decide) (fun c4 => ?_) (fun c4 => ?_)
    · refine rn_iconst (pc := 35) (0 : Int32) dk_Md_can_35 cn_i_0 ?_
      exact rn_zret (ty := .boolean) rfl rfl dk_Md_can_36
    · refine rn_iload_n (pc := 22) 3 dk_Md_can_22 rfl rfl ?_
      refine rn_iconst (pc := 23) (4 : Int32) dk_Md_can_23 cn_i_4 ?_
      refine rn_icmp_gt (pc := 24) 35 dk_Md_can_24 (by decide) (fun c5 => ?_) (fun c5 => ?_)
      · refine rn_iconst (pc := 35) (0 : Int32) dk_Md_can_35 cn_i_0 ?_
        exact rn_zret (ty := .boolean) rfl rfl dk_Md_can_36
      · refine rn_aload_n (pc := 27) 0 dk_Md_can_27 rfl rfl rfl ?_
        refine rn_iload_n (pc := 28) 2 dk_Md_can_28 rfl rfl ?_
        refine cl_Md_101 (pc := 29) (As := [.int v2]) (st := []) rfl (ct_Md_isMaker X v2 σ) (Nat.le_trans (Nat.le_of_ble_eq_true rfl) hF0) rfl rfl (Nat.le_of_ble_eq_true rfl) dk_Md_can_29 (fun q6 => ?_)
        refine rn_if_ne (pc := 32) 37 dk_Md_can_32 (by decide) (fun c7 => ?_) (fun c7 => ?_)
        · refine rn_iload_n (pc := 37) 3 dk_Md_can_37 rfl rfl ?_
          refine rn_iconst (pc := 38) (1 : Int32) dk_Md_can_38 cn_i_1 ?_
          refine rn_icmp_ne (pc := 39) 71 dk_Md_can_39 (by decide) (fun c8 => ?_) (fun c8 => ?_)
          · refine rn_aload_n (pc := 71) 0 dk_Md_can_71 rfl rfl rfl ?_
            refine rn_iload_n (pc := 72) 2 dk_Md_can_72 rfl rfl ?_
            refine rn_iload_n (pc := 73) 3 dk_Md_can_73 rfl rfl ?_
            refine rn_iconst (pc := 74) (2 : Int32) dk_Md_can_74 cn_i_2 ?_
            refine rn_isub (pc := 75) dk_Md_can_75 ?_
            refine cl_Md_221 (pc := 76) (As := [.int v2, .int (v3 - (2 : Int32))]) (st := []) rfl (ct_Md_mayDeed X v2 (v3 - (2 : Int32)) q6.2) (Nat.le_trans (Nat.le_of_ble_eq_true rfl) hF0) rfl rfl (Nat.le_of_ble_eq_true rfl) dk_Md_can_76 (fun q9 => ?_)
            refine rn_guard (fun g10 => ?_)
            exact rn_zret (ty := .boolean) rfl (nm_bz_n g10) dk_Md_can_79
          · refine rn_aload_n (pc := 42) 0 dk_Md_can_42 rfl rfl rfl ?_
            refine gf_Md_41 (pc := 43) rfl dk_Md_can_43 ?_
            refine rn_iload_n (pc := 46) 2 dk_Md_can_46 rfl rfl ?_
            refine rn_iaload (pc := 47) rfl dk_Md_can_47 (fun g11 => ?_)
            refine rn_if_ne (pc := 48) 67 dk_Md_can_48 (by decide) (fun c12 => ?_) (fun c12 => ?_)
            · refine rn_iconst (pc := 67) (0 : Int32) dk_Md_can_67 cn_i_0 ?_
              refine rn_goto (pc := 68) 79 dk_Md_can_68 (by decide) ?_
              exact rn_zret (ty := .boolean) rfl rfl dk_Md_can_79
            · refine rn_aload_n (pc := 51) 0 dk_Md_can_51 rfl rfl rfl ?_
              refine rn_iload_n (pc := 52) 2 dk_Md_can_52 rfl rfl ?_
              refine cl_Md_107 (pc := 53) (As := [.int v2]) (st := []) rfl (ct_Md_price X v2 q6.2) (Nat.le_trans (Nat.le_of_ble_eq_true rfl) hF0) rfl rfl (Nat.le_of_ble_eq_true rfl) dk_Md_can_53 (fun q13 => ?_)
              refine rn_aload_n (pc := 56) 0 dk_Md_can_56 rfl rfl rfl ?_
              refine gf_Md_13 (pc := 57) rfl dk_Md_can_57 ?_
              refine rn_icmp_gt (pc := 60) 67 dk_Md_can_60 (by decide) (fun c14 => ?_) (fun c14 => ?_)
              · refine rn_iconst (pc := 67) (0 : Int32) dk_Md_can_67 cn_i_0 ?_
                refine rn_goto (pc := 68) 79 dk_Md_can_68 (by decide) ?_
                exact rn_zret (ty := .boolean) rfl rfl dk_Md_can_79
              · refine rn_iconst (pc := 63) (1 : Int32) dk_Md_can_63 cn_i_1 ?_
                refine rn_goto (pc := 64) 79 dk_Md_can_64 (by decide) ?_
                exact rn_zret (ty := .boolean) rfl rfl dk_Md_can_79
        · refine rn_iconst (pc := 35) (0 : Int32) dk_Md_can_35 cn_i_0 ?_
          exact rn_zret (ty := .boolean) rfl rfl dk_Md_can_36
  · refine rn_iconst (pc := 4) (1 : Int32) dk_Md_can_4 cn_i_1 ?_
    exact rn_zret (ty := .boolean) rfl rfl dk_Md_can_5
theorem dk_Md_isDouble_0 : decode mi_Md_isDouble.2.1 0 = .ok (.aload_n 0, 1) := by decide +kernel
theorem dk_Md_isDouble_1 : decode mi_Md_isDouble.2.1 1 = .ok (.getfield 26, 3) := by decide +kernel
theorem dk_Md_isDouble_4 : decode mi_Md_isDouble.2.1 4 = .ok (.iload_n 1, 1) := by decide +kernel
theorem dk_Md_isDouble_5 : decode mi_Md_isDouble.2.1 5 = .ok (.iaload, 1) := by decide +kernel
theorem dk_Md_isDouble_6 : decode mi_Md_isDouble.2.1 6 = .ok (.iconst 2, 1) := by decide +kernel
theorem dk_Md_isDouble_7 : decode mi_Md_isDouble.2.1 7 = .ok (.if_icmp .eq 13, 3) := by decide +kernel
theorem dk_Md_isDouble_10 : decode mi_Md_isDouble.2.1 10 = .ok (.aload_n 0, 1) := by decide +kernel
theorem dk_Md_isDouble_11 : decode mi_Md_isDouble.2.1 11 = .ok (.getfield 26, 3) := by decide +kernel
theorem dk_Md_isDouble_14 : decode mi_Md_isDouble.2.1 14 = .ok (.iload_n 1, 1) := by decide +kernel
theorem dk_Md_isDouble_15 : decode mi_Md_isDouble.2.1 15 = .ok (.iaload, 1) := by decide +kernel
theorem dk_Md_isDouble_16 : decode mi_Md_isDouble.2.1 16 = .ok (.iconst 5, 1) := by decide +kernel
theorem dk_Md_isDouble_17 : decode mi_Md_isDouble.2.1 17 = .ok (.if_icmp .ne 7, 3) := by decide +kernel
theorem dk_Md_isDouble_20 : decode mi_Md_isDouble.2.1 20 = .ok (.iconst 1, 1) := by decide +kernel
theorem dk_Md_isDouble_21 : decode mi_Md_isDouble.2.1 21 = .ok (.goto 4, 3) := by decide +kernel
theorem dk_Md_isDouble_24 : decode mi_Md_isDouble.2.1 24 = .ok (.iconst 0, 1) := by decide +kernel
theorem dk_Md_isDouble_25 : decode mi_Md_isDouble.2.1 25 = .ok (.ireturn, 1) := by decide +kernel
def Md_isDouble (p1 : Int32) (σ : nm_St) : Option (Int32 × nm_St) :=
  (nm_g (nm_in p1 8) (
  (if (σ.1 72 p1.toNatClampNeg) = (2 : Int32) then
    some ((1 : Int32), σ)
  else
    (nm_g (nm_in p1 8) (
    (if (σ.1 72 p1.toNatClampNeg) = (5 : Int32) then
      some ((1 : Int32), σ)
    else
      some ((0 : Int32), σ)))))))
set_option maxRecDepth 100000 in
set_option maxHeartbeats 4000000 in
theorem ct_Md_isDouble (X : nm_X) (p1 : Int32) (σ : nm_St) : Ct X mi_Md_isDouble 0 nm_wI [.ref 70, .int p1] σ (Md_isDouble p1 σ) := by
  refine Ct.of (by decide +kernel) rfl (fun F hF0 => ?_)
  unfold Md_isDouble
  refine rn_aload_n (pc := 0) 0 dk_Md_isDouble_0 rfl rfl rfl ?_
  refine gf_Md_26 (pc := 1) rfl dk_Md_isDouble_1 ?_
  refine rn_iload_n (pc := 4) 1 dk_Md_isDouble_4 rfl rfl ?_
  refine rn_iaload (pc := 5) rfl dk_Md_isDouble_5 (fun g1 => ?_)
  refine rn_iconst (pc := 6) (2 : Int32) dk_Md_isDouble_6 cn_i_2 ?_
  refine rn_icmp_eq (pc := 7) 20 dk_Md_isDouble_7 (by decide) (fun c2 => ?_) (fun c2 => ?_)
  · refine rn_iconst (pc := 20) (1 : Int32) dk_Md_isDouble_20 cn_i_1 ?_
    refine rn_goto (pc := 21) 25 dk_Md_isDouble_21 (by decide) ?_
    exact rn_zret (ty := .boolean) rfl rfl dk_Md_isDouble_25
  · refine rn_aload_n (pc := 10) 0 dk_Md_isDouble_10 rfl rfl rfl ?_
    refine gf_Md_26 (pc := 11) rfl dk_Md_isDouble_11 ?_
    refine rn_iload_n (pc := 14) 1 dk_Md_isDouble_14 rfl rfl ?_
    refine rn_iaload (pc := 15) rfl dk_Md_isDouble_15 (fun g3 => ?_)
    refine rn_iconst (pc := 16) (5 : Int32) dk_Md_isDouble_16 cn_i_5 ?_
    refine rn_icmp_ne (pc := 17) 24 dk_Md_isDouble_17 (by decide) (fun c4 => ?_) (fun c4 => ?_)
    · refine rn_iconst (pc := 24) (0 : Int32) dk_Md_isDouble_24 cn_i_0 ?_
      exact rn_zret (ty := .boolean) rfl rfl dk_Md_isDouble_25
    · refine rn_iconst (pc := 20) (1 : Int32) dk_Md_isDouble_20 cn_i_1 ?_
      refine rn_goto (pc := 21) 25 dk_Md_isDouble_21 (by decide) ?_
      exact rn_zret (ty := .boolean) rfl rfl dk_Md_isDouble_25
theorem dk_Md_passes_0 : decode mi_Md_passes.2.1 0 = .ok (.aload_n 0, 1) := by decide +kernel
theorem dk_Md_passes_1 : decode mi_Md_passes.2.1 1 = .ok (.iconst 1, 1) := by decide +kernel
theorem dk_Md_passes_2 : decode mi_Md_passes.2.1 2 = .ok (.invokevirtual 183, 3) := by decide +kernel
theorem dk_Md_passes_5 : decode mi_Md_passes.2.1 5 = .ok (.istore_n 1, 1) := by decide +kernel
theorem dk_Md_passes_6 : decode mi_Md_passes.2.1 6 = .ok (.aload_n 0, 1) := by decide +kernel
theorem dk_Md_passes_7 : decode mi_Md_passes.2.1 7 = .ok (.iload_n 1, 1) := by decide +kernel
theorem dk_Md_passes_8 : decode mi_Md_passes.2.1 8 = .ok (.invokevirtual 180, 3) := by decide +kernel
theorem dk_Md_passes_11 : decode mi_Md_passes.2.1 11 = .ok (.istore_n 2, 1) := by decide +kernel
theorem dk_Md_passes_12 : decode mi_Md_passes.2.1 12 = .ok (.iconst 0, 1) := by decide +kernel
theorem dk_Md_passes_13 : decode mi_Md_passes.2.1 13 = .ok (.istore_n 3, 1) := by decide +kernel
theorem dk_Md_passes_14 : decode mi_Md_passes.2.1 14 = .ok (.iconst 0, 1) := by decide +kernel
theorem dk_Md_passes_15 : decode mi_Md_passes.2.1 15 = .ok (.istore 4, 2) := by decide +kernel
theorem dk_Md_passes_17 : decode mi_Md_passes.2.1 17 = .ok (.iload 4, 2) := by decide +kernel
theorem dk_Md_passes_19 : decode mi_Md_passes.2.1 19 = .ok (.aload_n 0, 1) := by decide +kernel
theorem dk_Md_passes_20 : decode mi_Md_passes.2.1 20 = .ok (.getfield 90, 3) := by decide +kernel
theorem dk_Md_passes_23 : decode mi_Md_passes.2.1 23 = .ok (.if_icmp .ge 53, 3) := by decide +kernel
theorem dk_Md_passes_26 : decode mi_Md_passes.2.1 26 = .ok (.aload_n 0, 1) := by decide +kernel
theorem dk_Md_passes_27 : decode mi_Md_passes.2.1 27 = .ok (.iload_n 1, 1) := by decide +kernel
theorem dk_Md_passes_28 : decode mi_Md_passes.2.1 28 = .ok (.iload 4, 2) := by decide +kernel
theorem dk_Md_passes_30 : decode mi_Md_passes.2.1 30 = .ok (.invokevirtual 174, 3) := by decide +kernel
theorem dk_Md_passes_33 : decode mi_Md_passes.2.1 33 = .ok (.ifCond .eq 37, 3) := by decide +kernel
theorem dk_Md_passes_36 : decode mi_Md_passes.2.1 36 = .ok (.aload_n 0, 1) := by decide +kernel
theorem dk_Md_passes_37 : decode mi_Md_passes.2.1 37 = .ok (.iload 4, 2) := by decide +kernel
theorem dk_Md_passes_39 : decode mi_Md_passes.2.1 39 = .ok (.invokevirtual 239, 3) := by decide +kernel
theorem dk_Md_passes_42 : decode mi_Md_passes.2.1 42 = .ok (.ifCond .ne 6, 3) := by decide +kernel
theorem dk_Md_passes_45 : decode mi_Md_passes.2.1 45 = .ok (.goto 25, 3) := by decide +kernel
theorem dk_Md_passes_48 : decode mi_Md_passes.2.1 48 = .ok (.aload_n 0, 1) := by decide +kernel
theorem dk_Md_passes_49 : decode mi_Md_passes.2.1 49 = .ok (.getfield 41, 3) := by decide +kernel
theorem dk_Md_passes_52 : decode mi_Md_passes.2.1 52 = .ok (.iload 4, 2) := by decide +kernel
theorem dk_Md_passes_54 : decode mi_Md_passes.2.1 54 = .ok (.iconst 0, 1) := by decide +kernel
theorem dk_Md_passes_55 : decode mi_Md_passes.2.1 55 = .ok (.iastore, 1) := by decide +kernel
theorem dk_Md_passes_56 : decode mi_Md_passes.2.1 56 = .ok (.aload_n 0, 1) := by decide +kernel
theorem dk_Md_passes_57 : decode mi_Md_passes.2.1 57 = .ok (.getfield 35, 3) := by decide +kernel
theorem dk_Md_passes_60 : decode mi_Md_passes.2.1 60 = .ok (.iload 4, 2) := by decide +kernel
theorem dk_Md_passes_62 : decode mi_Md_passes.2.1 62 = .ok (.dup2, 1) := by decide +kernel
theorem dk_Md_passes_63 : decode mi_Md_passes.2.1 63 = .ok (.iaload, 1) := by decide +kernel
theorem dk_Md_passes_64 : decode mi_Md_passes.2.1 64 = .ok (.iload_n 2, 1) := by decide +kernel
theorem dk_Md_passes_65 : decode mi_Md_passes.2.1 65 = .ok (.ior, 1) := by decide +kernel
theorem dk_Md_passes_66 : decode mi_Md_passes.2.1 66 = .ok (.iastore, 1) := by decide +kernel
theorem dk_Md_passes_67 : decode mi_Md_passes.2.1 67 = .ok (.iinc 3 1, 3) := by decide +kernel
theorem dk_Md_passes_70 : decode mi_Md_passes.2.1 70 = .ok (.iinc 4 1, 3) := by decide +kernel
theorem dk_Md_passes_73 : decode mi_Md_passes.2.1 73 = .ok (.goto (-56), 3) := by decide +kernel
theorem dk_Md_passes_76 : decode mi_Md_passes.2.1 76 = .ok (.aload_n 0, 1) := by decide +kernel
theorem dk_Md_passes_77 : decode mi_Md_passes.2.1 77 = .ok (.dup, 1) := by decide +kernel
theorem dk_Md_passes_78 : decode mi_Md_passes.2.1 78 = .ok (.getfield 118, 3) := by decide +kernel
theorem dk_Md_passes_81 : decode mi_Md_passes.2.1 81 = .ok (.aload_n 0, 1) := by decide +kernel
theorem dk_Md_passes_82 : decode mi_Md_passes.2.1 82 = .ok (.getfield 118, 3) := by decide +kernel
theorem dk_Md_passes_85 : decode mi_Md_passes.2.1 85 = .ok (.ifCond .le 7, 3) := by decide +kernel
theorem dk_Md_passes_88 : decode mi_Md_passes.2.1 88 = .ok (.iconst 1, 1) := by decide +kernel
theorem dk_Md_passes_89 : decode mi_Md_passes.2.1 89 = .ok (.goto 4, 3) := by decide +kernel
theorem dk_Md_passes_92 : decode mi_Md_passes.2.1 92 = .ok (.iconst 0, 1) := by decide +kernel
theorem dk_Md_passes_93 : decode mi_Md_passes.2.1 93 = .ok (.isub, 1) := by decide +kernel
theorem dk_Md_passes_94 : decode mi_Md_passes.2.1 94 = .ok (.putfield 118, 3) := by decide +kernel
theorem dk_Md_passes_97 : decode mi_Md_passes.2.1 97 = .ok (.aload_n 0, 1) := by decide +kernel
theorem dk_Md_passes_98 : decode mi_Md_passes.2.1 98 = .ok (.dup, 1) := by decide +kernel
theorem dk_Md_passes_99 : decode mi_Md_passes.2.1 99 = .ok (.getfield 161, 3) := by decide +kernel
theorem dk_Md_passes_102 : decode mi_Md_passes.2.1 102 = .ok (.iconst 1, 1) := by decide +kernel
theorem dk_Md_passes_103 : decode mi_Md_passes.2.1 103 = .ok (.iadd, 1) := by decide +kernel
theorem dk_Md_passes_104 : decode mi_Md_passes.2.1 104 = .ok (.putfield 161, 3) := by decide +kernel
theorem dk_Md_passes_107 : decode mi_Md_passes.2.1 107 = .ok (.iload_n 3, 1) := by decide +kernel
theorem dk_Md_passes_108 : decode mi_Md_passes.2.1 108 = .ok (.ireturn, 1) := by decide +kernel
def Md_passes_l17 (k_76 : Int32 → nm_St → Option (Int32 × nm_St)) : Nat → Int32 → Int32 → Int32 → Int32 → nm_St → Option (Int32 × nm_St)
  | 0, _, _, _, _, _ => none
  | n + 1, x1, x2, x3, x4, σ =>
    (if (σ.1 70 0) ≤ x4 then
      k_76 x3 σ
    else
      ((Md_has x1 x4 σ).bind fun q4 =>
      (if q4.1 = 0 then
        (Md_passes_l17 k_76 n) x1 x2 x3 (x4 + (1 : Int32)) q4.2
      else
        ((Md_isDouble x4 q4.2).bind fun q6 =>
        (if q6.1 = 0 then
          (Md_passes_l17 k_76 n) x1 x2 x3 (x4 + (1 : Int32)) q6.2
        else
          (nm_g (nm_in x4 8) (
          (nm_let (nm_pI q6.2 77 x4.toNatClampNeg (0 : Int32)) fun s9 =>
          (nm_g (nm_in x4 8) (
          (nm_g (nm_in x4 8) (
          (nm_let (nm_pI s9 75 x4.toNatClampNeg ((s9.1 75 x4.toNatClampNeg) ||| x2)) fun s12 =>
          (Md_passes_l17 k_76 n) x1 x2 (x3 + (1 : Int32)) (x4 + (1 : Int32)) s12)))))))))))))
set_option maxRecDepth 100000 in
set_option maxHeartbeats 4000000 in
theorem r_Md_passes_l17 (X : nm_X) (F : nm_F) (hF0 : 2 ≤ nm_d F) (k_76 : Int32 → nm_St → Option (Int32 × nm_St)) (hk_76 : ∀ (x3 : Int32) (σ : nm_St), Rn X mi_Md_passes F (nm_Qf X F nm_wI) [(0, .ref 70), (3, .int x3)] [] 76 σ (k_76 x3 σ)) : ∀ (n : Nat) (x1 : Int32) (x2 : Int32) (x3 : Int32) (x4 : Int32) (σ : nm_St), Rn X mi_Md_passes F (nm_Qf X F nm_wI) [(0, .ref 70), (1, .int x1), (2, .int x2), (3, .int x3), (4, .int x4)] [] 17 σ (Md_passes_l17 k_76 n x1 x2 x3 x4 σ) := by
  intro n
  induction n with
  | zero =>
    intro x1 x2 x3 x4 σ
    exact rn_none
  | succ n ih =>
    intro x1 x2 x3 x4 σ
    unfold Md_passes_l17
    refine rn_iload (pc := 17) dk_Md_passes_17 rfl ?_
    refine rn_aload_n (pc := 19) 0 dk_Md_passes_19 rfl rfl rfl ?_
    refine gf_Md_90 (pc := 20) rfl dk_Md_passes_20 ?_
    refine rn_icmp_ge (pc := 23) 76 dk_Md_passes_23 (by decide) (fun c3 => ?_) (fun c3 => ?_)
    · exact rn_sub (by rfl) (hk_76 x3 σ)
    · refine rn_aload_n (pc := 26) 0 dk_Md_passes_26 rfl rfl rfl ?_
      refine rn_iload_n (pc := 27) 1 dk_Md_passes_27 rfl rfl ?_
      refine rn_iload (pc := 28) dk_Md_passes_28 rfl ?_
      refine cl_Md_174 (pc := 30) (As := [.int x1, .int x4]) (st := []) rfl (ct_Md_has X x1 x4 σ) (Nat.le_trans (Nat.le_of_ble_eq_true rfl) hF0) rfl rfl (Nat.le_of_ble_eq_true rfl) dk_Md_passes_30 (fun q4 => ?_)
      refine rn_if_eq (pc := 33) 70 dk_Md_passes_33 (by decide) (fun c5 => ?_) (fun c5 => ?_)
      · refine rn_iinc (pc := 70) (1 : Int32) dk_Md_passes_70 cn_i_1 rfl rfl rfl ?_
        refine rn_goto (pc := 73) 17 dk_Md_passes_73 (by decide) ?_
        exact rn_sub (by rfl) (ih x1 x2 x3 (x4 + (1 : Int32)) q4.2)
      · refine rn_aload_n (pc := 36) 0 dk_Md_passes_36 rfl rfl rfl ?_
        refine rn_iload (pc := 37) dk_Md_passes_37 rfl ?_
        refine cl_Md_239 (pc := 39) (As := [.int x4]) (st := []) rfl (ct_Md_isDouble X x4 q4.2) (Nat.le_trans (Nat.le_of_ble_eq_true rfl) hF0) rfl rfl (Nat.le_of_ble_eq_true rfl) dk_Md_passes_39 (fun q6 => ?_)
        refine rn_if_ne (pc := 42) 48 dk_Md_passes_42 (by decide) (fun c7 => ?_) (fun c7 => ?_)
        · refine rn_aload_n (pc := 48) 0 dk_Md_passes_48 rfl rfl rfl ?_
          refine gf_Md_41 (pc := 49) rfl dk_Md_passes_49 ?_
          refine rn_iload (pc := 52) dk_Md_passes_52 rfl ?_
          refine rn_iconst (pc := 54) (0 : Int32) dk_Md_passes_54 cn_i_0 ?_
          refine rn_iastore (pc := 55) rfl dk_Md_passes_55 (fun g8 => ?_)
          refine rn_lets (fun s9 => ?_)
          refine rn_aload_n (pc := 56) 0 dk_Md_passes_56 rfl rfl rfl ?_
          refine gf_Md_35 (pc := 57) rfl dk_Md_passes_57 ?_
          refine rn_iload (pc := 60) dk_Md_passes_60 rfl ?_
          refine rn_dup2 (pc := 62) dk_Md_passes_62 rfl rfl ?_
          refine rn_iaload (pc := 63) rfl dk_Md_passes_63 (fun g10 => ?_)
          refine rn_iload_n (pc := 64) 2 dk_Md_passes_64 rfl rfl ?_
          refine rn_ior (pc := 65) dk_Md_passes_65 ?_
          refine rn_iastore (pc := 66) rfl dk_Md_passes_66 (fun g11 => ?_)
          refine rn_lets (fun s12 => ?_)
          refine rn_iinc (pc := 67) (1 : Int32) dk_Md_passes_67 cn_i_1 rfl rfl rfl ?_
          refine rn_iinc (pc := 70) (1 : Int32) dk_Md_passes_70 cn_i_1 rfl rfl rfl ?_
          refine rn_goto (pc := 73) 17 dk_Md_passes_73 (by decide) ?_
          exact rn_sub (by rfl) (ih x1 x2 (x3 + (1 : Int32)) (x4 + (1 : Int32)) s12)
        · refine rn_goto (pc := 45) 70 dk_Md_passes_45 (by decide) ?_
          refine rn_iinc (pc := 70) (1 : Int32) dk_Md_passes_70 cn_i_1 rfl rfl rfl ?_
          refine rn_goto (pc := 73) 17 dk_Md_passes_73 (by decide) ?_
          exact rn_sub (by rfl) (ih x1 x2 x3 (x4 + (1 : Int32)) q6.2)
def Md_passes_j93 (x3 : Int32) (y1 : Int32) (y2 : Int32) (σ : nm_St) : Option (Int32 × nm_St) :=
  (nm_let (nm_pI σ 70 2 (y1 - y2)) fun s16 =>
  (nm_let (nm_pI s16 70 4 ((s16.1 70 4) + (1 : Int32))) fun s17 =>
  some (x3, s17)))
set_option maxRecDepth 100000 in
set_option maxHeartbeats 4000000 in
theorem r_Md_passes_j93 (X : nm_X) (F : nm_F) (hF0 : 2 ≤ nm_d F) (x3 : Int32) (y1 : Int32) (y2 : Int32) (σ : nm_St) : Rn X mi_Md_passes F (nm_Qf X F nm_wI) [(0, .ref 70), (3, .int x3)] [.int y2, .int y1, .ref 70] 93 σ (Md_passes_j93 x3 y1 y2 σ) := by
  unfold Md_passes_j93
  refine rn_isub (pc := 93) dk_Md_passes_93 ?_
  refine pf_Md_118 (pc := 94) rfl dk_Md_passes_94 ?_
  refine rn_lets (fun s16 => ?_)
  refine rn_aload_n (pc := 97) 0 dk_Md_passes_97 rfl rfl rfl ?_
  refine rn_dup (pc := 98) dk_Md_passes_98 rfl ?_
  refine gf_Md_161 (pc := 99) rfl dk_Md_passes_99 ?_
  refine rn_iconst (pc := 102) (1 : Int32) dk_Md_passes_102 cn_i_1 ?_
  refine rn_iadd (pc := 103) dk_Md_passes_103 ?_
  refine pf_Md_161 (pc := 104) rfl dk_Md_passes_104 ?_
  refine rn_lets (fun s17 => ?_)
  refine rn_iload_n (pc := 107) 3 dk_Md_passes_107 rfl rfl ?_
  exact rn_iret rfl dk_Md_passes_108
def Md_passes (σ : nm_St) : Option (Int32 × nm_St) :=
  ((Md_those (1 : Int32) σ).bind fun q1 =>
  ((Md_knownBy q1.1 q1.2).bind fun q2 =>
  Md_passes_l17 (fun (e14 : Int32) (s13 : nm_St) =>
    (if (s13.1 70 2) ≤ 0 then
      Md_passes_j93 e14 (s13.1 70 2) (0 : Int32) s13
    else
      Md_passes_j93 e14 (s13.1 70 2) (1 : Int32) s13)) 400 q1.1 q2.1 (0 : Int32) (0 : Int32) q2.2))
set_option maxRecDepth 100000 in
set_option maxHeartbeats 4000000 in
theorem ct_Md_passes (X : nm_X) (σ : nm_St) : Ct X mi_Md_passes 2 nm_wI [.ref 70] σ (Md_passes σ) := by
  refine Ct.of (by decide +kernel) rfl (fun F hF0 => ?_)
  unfold Md_passes
  refine rn_aload_n (pc := 0) 0 dk_Md_passes_0 rfl rfl rfl ?_
  refine rn_iconst (pc := 1) (1 : Int32) dk_Md_passes_1 cn_i_1 ?_
  refine cl_Md_183 (pc := 2) (As := [.int (1 : Int32)]) (st := []) rfl (ct_Md_those X (1 : Int32) σ) (Nat.le_trans (Nat.le_of_ble_eq_true rfl) hF0) rfl rfl (Nat.le_of_ble_eq_true rfl) dk_Md_passes_2 (fun q1 => ?_)
  refine rn_istore_n (pc := 5) 1 dk_Md_passes_5 rfl rfl rfl ?_
  refine rn_aload_n (pc := 6) 0 dk_Md_passes_6 rfl rfl rfl ?_
  refine rn_iload_n (pc := 7) 1 dk_Md_passes_7 rfl rfl ?_
  refine cl_Md_180 (pc := 8) (As := [.int q1.1]) (st := []) rfl (ct_Md_knownBy X q1.1 q1.2) (Nat.le_trans (Nat.le_of_ble_eq_true rfl) hF0) rfl rfl (Nat.le_of_ble_eq_true rfl) dk_Md_passes_8 (fun q2 => ?_)
  refine rn_istore_n (pc := 11) 2 dk_Md_passes_11 rfl rfl rfl ?_
  refine rn_iconst (pc := 12) (0 : Int32) dk_Md_passes_12 cn_i_0 ?_
  refine rn_istore_n (pc := 13) 3 dk_Md_passes_13 rfl rfl rfl ?_
  refine rn_iconst (pc := 14) (0 : Int32) dk_Md_passes_14 cn_i_0 ?_
  refine rn_istore (pc := 15) dk_Md_passes_15 rfl rfl ?_
  refine rn_sub (by rfl) (r_Md_passes_l17 X F hF0 _ (fun e14 s13 => ?_) 400 q1.1 q2.1 (0 : Int32) (0 : Int32) q2.2)
  refine rn_aload_n (pc := 76) 0 dk_Md_passes_76 rfl rfl rfl ?_
  refine rn_dup (pc := 77) dk_Md_passes_77 rfl ?_
  refine gf_Md_118 (pc := 78) rfl dk_Md_passes_78 ?_
  refine rn_aload_n (pc := 81) 0 dk_Md_passes_81 rfl rfl rfl ?_
  refine gf_Md_118 (pc := 82) rfl dk_Md_passes_82 ?_
  refine rn_if_le (pc := 85) 92 dk_Md_passes_85 (by decide) (fun c15 => ?_) (fun c15 => ?_)
  · refine rn_iconst (pc := 92) (0 : Int32) dk_Md_passes_92 cn_i_0 ?_
    exact rn_sub (by rfl) (r_Md_passes_j93 X F hF0 e14 (s13.1 70 2) (0 : Int32) s13)
  · refine rn_iconst (pc := 88) (1 : Int32) dk_Md_passes_88 cn_i_1 ?_
    refine rn_goto (pc := 89) 93 dk_Md_passes_89 (by decide) ?_
    exact rn_sub (by rfl) (r_Md_passes_j93 X F hF0 e14 (s13.1 70 2) (1 : Int32) s13)
theorem dk_Md_comes_0 : decode mi_Md_comes.2.1 0 = .ok (.iload_n 1, 1) := by decide +kernel
theorem dk_Md_comes_1 : decode mi_Md_comes.2.1 1 = .ok (.bipush 100, 2) := by decide +kernel
theorem dk_Md_comes_3 : decode mi_Md_comes.2.1 3 = .ok (.irem, 1) := by decide +kernel
theorem dk_Md_comes_4 : decode mi_Md_comes.2.1 4 = .ok (.istore_n 2, 1) := by decide +kernel
theorem dk_Md_comes_5 : decode mi_Md_comes.2.1 5 = .ok (.iload_n 1, 1) := by decide +kernel
theorem dk_Md_comes_6 : decode mi_Md_comes.2.1 6 = .ok (.bipush 100, 2) := by decide +kernel
theorem dk_Md_comes_8 : decode mi_Md_comes.2.1 8 = .ok (.idiv, 1) := by decide +kernel
theorem dk_Md_comes_9 : decode mi_Md_comes.2.1 9 = .ok (.istore_n 3, 1) := by decide +kernel
theorem dk_Md_comes_10 : decode mi_Md_comes.2.1 10 = .ok (.iload_n 1, 1) := by decide +kernel
theorem dk_Md_comes_11 : decode mi_Md_comes.2.1 11 = .ok (.ifCond .ne 11, 3) := by decide +kernel
theorem dk_Md_comes_14 : decode mi_Md_comes.2.1 14 = .ok (.aload_n 0, 1) := by decide +kernel
theorem dk_Md_comes_15 : decode mi_Md_comes.2.1 15 = .ok (.invokevirtual 242, 3) := by decide +kernel
theorem dk_Md_comes_18 : decode mi_Md_comes.2.1 18 = .ok (.pop, 1) := by decide +kernel
theorem dk_Md_comes_19 : decode mi_Md_comes.2.1 19 = .ok (.goto 40, 3) := by decide +kernel
theorem dk_Md_comes_22 : decode mi_Md_comes.2.1 22 = .ok (.iload_n 3, 1) := by decide +kernel
theorem dk_Md_comes_23 : decode mi_Md_comes.2.1 23 = .ok (.iconst 1, 1) := by decide +kernel
theorem dk_Md_comes_24 : decode mi_Md_comes.2.1 24 = .ok (.if_icmp .ne 27, 3) := by decide +kernel
theorem dk_Md_comes_27 : decode mi_Md_comes.2.1 27 = .ok (.aload_n 0, 1) := by decide +kernel
theorem dk_Md_comes_28 : decode mi_Md_comes.2.1 28 = .ok (.dup, 1) := by decide +kernel
theorem dk_Md_comes_29 : decode mi_Md_comes.2.1 29 = .ok (.getfield 13, 3) := by decide +kernel
theorem dk_Md_comes_32 : decode mi_Md_comes.2.1 32 = .ok (.aload_n 0, 1) := by decide +kernel
theorem dk_Md_comes_33 : decode mi_Md_comes.2.1 33 = .ok (.iload_n 2, 1) := by decide +kernel
theorem dk_Md_comes_34 : decode mi_Md_comes.2.1 34 = .ok (.invokevirtual 107, 3) := by decide +kernel
theorem dk_Md_comes_37 : decode mi_Md_comes.2.1 37 = .ok (.isub, 1) := by decide +kernel
theorem dk_Md_comes_38 : decode mi_Md_comes.2.1 38 = .ok (.putfield 13, 3) := by decide +kernel
theorem dk_Md_comes_41 : decode mi_Md_comes.2.1 41 = .ok (.aload_n 0, 1) := by decide +kernel
theorem dk_Md_comes_42 : decode mi_Md_comes.2.1 42 = .ok (.getfield 41, 3) := by decide +kernel
theorem dk_Md_comes_45 : decode mi_Md_comes.2.1 45 = .ok (.iload_n 2, 1) := by decide +kernel
theorem dk_Md_comes_46 : decode mi_Md_comes.2.1 46 = .ok (.iconst 1, 1) := by decide +kernel
theorem dk_Md_comes_47 : decode mi_Md_comes.2.1 47 = .ok (.iastore, 1) := by decide +kernel
theorem dk_Md_comes_48 : decode mi_Md_comes.2.1 48 = .ok (.goto 11, 3) := by decide +kernel
theorem dk_Md_comes_51 : decode mi_Md_comes.2.1 51 = .ok (.aload_n 0, 1) := by decide +kernel
theorem dk_Md_comes_52 : decode mi_Md_comes.2.1 52 = .ok (.iload_n 2, 1) := by decide +kernel
theorem dk_Md_comes_53 : decode mi_Md_comes.2.1 53 = .ok (.iload_n 3, 1) := by decide +kernel
theorem dk_Md_comes_54 : decode mi_Md_comes.2.1 54 = .ok (.iconst 2, 1) := by decide +kernel
theorem dk_Md_comes_55 : decode mi_Md_comes.2.1 55 = .ok (.isub, 1) := by decide +kernel
theorem dk_Md_comes_56 : decode mi_Md_comes.2.1 56 = .ok (.invokevirtual 224, 3) := by decide +kernel
theorem dk_Md_comes_59 : decode mi_Md_comes.2.1 59 = .ok (.return_, 1) := by decide +kernel
def Md_comes (p1 : Int32) (σ : nm_St) : Option (Unit × nm_St) :=
  (nm_g (!decide ((100 : Int32) = 0)) (
  (nm_let ((p1 - p1 / (100 : Int32) * (100 : Int32))) fun v1 =>
  (nm_g (!decide ((100 : Int32) = 0)) (
  (nm_let ((p1 / (100 : Int32))) fun v2 =>
  (if p1 = 0 then
    ((Md_passes σ).bind fun q10 =>
    some ((), q10.2))
  else
    (if v2 = (1 : Int32) then
      ((Md_price v1 σ).bind fun q6 =>
      (nm_let (nm_pI q6.2 70 3 ((σ.1 70 3) - q6.1)) fun s7 =>
      (nm_g (nm_in v1 8) (
      (nm_let (nm_pI s7 77 v1.toNatClampNeg (1 : Int32)) fun s9 =>
      some ((), s9))))))
    else
      ((Md_deeds v1 (v2 - (2 : Int32)) σ).bind fun q5 =>
      some ((), q5.2))))))))))
set_option maxRecDepth 100000 in
set_option maxHeartbeats 4000000 in
theorem ct_Md_comes (X : nm_X) (p1 : Int32) (σ : nm_St) : Ct X mi_Md_comes 3 nm_wV [.ref 70, .int p1] σ (Md_comes p1 σ) := by
  refine Ct.of (by decide +kernel) rfl (fun F hF0 => ?_)
  unfold Md_comes
  refine rn_iload_n (pc := 0) 1 dk_Md_comes_0 rfl rfl ?_
  refine rn_bipush (pc := 1) (100 : Int32) dk_Md_comes_1 cn_b_100 ?_
  refine rn_irem (pc := 3) dk_Md_comes_3 ?_
  refine rn_leti (fun v1 => ?_)
  refine rn_istore_n (pc := 4) 2 dk_Md_comes_4 rfl rfl rfl ?_
  refine rn_iload_n (pc := 5) 1 dk_Md_comes_5 rfl rfl ?_
  refine rn_bipush (pc := 6) (100 : Int32) dk_Md_comes_6 cn_b_100 ?_
  refine rn_idiv (pc := 8) dk_Md_comes_8 ?_
  refine rn_leti (fun v2 => ?_)
  refine rn_istore_n (pc := 9) 3 dk_Md_comes_9 rfl rfl rfl ?_
  refine rn_iload_n (pc := 10) 1 dk_Md_comes_10 rfl rfl ?_
  refine rn_if_ne (pc := 11) 22 dk_Md_comes_11 (by decide) (fun c3 => ?_) (fun c3 => ?_)
  · refine rn_iload_n (pc := 22) 3 dk_Md_comes_22 rfl rfl ?_
    refine rn_iconst (pc := 23) (1 : Int32) dk_Md_comes_23 cn_i_1 ?_
    refine rn_icmp_ne (pc := 24) 51 dk_Md_comes_24 (by decide) (fun c4 => ?_) (fun c4 => ?_)
    · refine rn_aload_n (pc := 51) 0 dk_Md_comes_51 rfl rfl rfl ?_
      refine rn_iload_n (pc := 52) 2 dk_Md_comes_52 rfl rfl ?_
      refine rn_iload_n (pc := 53) 3 dk_Md_comes_53 rfl rfl ?_
      refine rn_iconst (pc := 54) (2 : Int32) dk_Md_comes_54 cn_i_2 ?_
      refine rn_isub (pc := 55) dk_Md_comes_55 ?_
      refine cl_Md_224 (pc := 56) (As := [.int v1, .int (v2 - (2 : Int32))]) (st := []) rfl (ct_Md_deeds X v1 (v2 - (2 : Int32)) σ) (Nat.le_trans (Nat.le_of_ble_eq_true rfl) hF0) rfl rfl (Nat.le_of_ble_eq_true rfl) dk_Md_comes_56 (fun q5 => ?_)
      exact rn_vret rfl dk_Md_comes_59
    · refine rn_aload_n (pc := 27) 0 dk_Md_comes_27 rfl rfl rfl ?_
      refine rn_dup (pc := 28) dk_Md_comes_28 rfl ?_
      refine gf_Md_13 (pc := 29) rfl dk_Md_comes_29 ?_
      refine rn_aload_n (pc := 32) 0 dk_Md_comes_32 rfl rfl rfl ?_
      refine rn_iload_n (pc := 33) 2 dk_Md_comes_33 rfl rfl ?_
      refine cl_Md_107 (pc := 34) (As := [.int v1]) (st := [.int (σ.1 70 3), .ref 70]) rfl (ct_Md_price X v1 σ) (Nat.le_trans (Nat.le_of_ble_eq_true rfl) hF0) rfl rfl (Nat.le_of_ble_eq_true rfl) dk_Md_comes_34 (fun q6 => ?_)
      refine rn_isub (pc := 37) dk_Md_comes_37 ?_
      refine pf_Md_13 (pc := 38) rfl dk_Md_comes_38 ?_
      refine rn_lets (fun s7 => ?_)
      refine rn_aload_n (pc := 41) 0 dk_Md_comes_41 rfl rfl rfl ?_
      refine gf_Md_41 (pc := 42) rfl dk_Md_comes_42 ?_
      refine rn_iload_n (pc := 45) 2 dk_Md_comes_45 rfl rfl ?_
      refine rn_iconst (pc := 46) (1 : Int32) dk_Md_comes_46 cn_i_1 ?_
      refine rn_iastore (pc := 47) rfl dk_Md_comes_47 (fun g8 => ?_)
      refine rn_lets (fun s9 => ?_)
      refine rn_goto (pc := 48) 59 dk_Md_comes_48 (by decide) ?_
      exact rn_vret rfl dk_Md_comes_59
  · refine rn_aload_n (pc := 14) 0 dk_Md_comes_14 rfl rfl rfl ?_
    refine cl_Md_242 (pc := 15) (As := []) (st := []) rfl (ct_Md_passes X σ) (Nat.le_trans (Nat.le_of_ble_eq_true rfl) hF0) rfl rfl (Nat.le_of_ble_eq_true rfl) dk_Md_comes_15 (fun q10 => ?_)
    refine rn_pop (pc := 18) dk_Md_comes_18 rfl ?_
    refine rn_goto (pc := 19) 59 dk_Md_comes_19 (by decide) ?_
    exact rn_vret rfl dk_Md_comes_59
theorem dk_Md_wrongIn_0 : decode mi_Md_wrongIn.2.1 0 = .ok (.iconst 0, 1) := by decide +kernel
theorem dk_Md_wrongIn_1 : decode mi_Md_wrongIn.2.1 1 = .ok (.istore_n 3, 1) := by decide +kernel
theorem dk_Md_wrongIn_2 : decode mi_Md_wrongIn.2.1 2 = .ok (.iload_n 3, 1) := by decide +kernel
theorem dk_Md_wrongIn_3 : decode mi_Md_wrongIn.2.1 3 = .ok (.iload_n 2, 1) := by decide +kernel
theorem dk_Md_wrongIn_4 : decode mi_Md_wrongIn.2.1 4 = .ok (.if_icmp .ge 34, 3) := by decide +kernel
theorem dk_Md_wrongIn_7 : decode mi_Md_wrongIn.2.1 7 = .ok (.aload_n 0, 1) := by decide +kernel
theorem dk_Md_wrongIn_8 : decode mi_Md_wrongIn.2.1 8 = .ok (.aload_n 0, 1) := by decide +kernel
theorem dk_Md_wrongIn_9 : decode mi_Md_wrongIn.2.1 9 = .ok (.iload_n 1, 1) := by decide +kernel
theorem dk_Md_wrongIn_10 : decode mi_Md_wrongIn.2.1 10 = .ok (.iload_n 3, 1) := by decide +kernel
theorem dk_Md_wrongIn_11 : decode mi_Md_wrongIn.2.1 11 = .ok (.invokevirtual 230, 3) := by decide +kernel
theorem dk_Md_wrongIn_14 : decode mi_Md_wrongIn.2.1 14 = .ok (.invokevirtual 245, 3) := by decide +kernel
theorem dk_Md_wrongIn_17 : decode mi_Md_wrongIn.2.1 17 = .ok (.ifCond .ne 5, 3) := by decide +kernel
theorem dk_Md_wrongIn_20 : decode mi_Md_wrongIn.2.1 20 = .ok (.iload_n 3, 1) := by decide +kernel
theorem dk_Md_wrongIn_21 : decode mi_Md_wrongIn.2.1 21 = .ok (.ireturn, 1) := by decide +kernel
theorem dk_Md_wrongIn_22 : decode mi_Md_wrongIn.2.1 22 = .ok (.aload_n 0, 1) := by decide +kernel
theorem dk_Md_wrongIn_23 : decode mi_Md_wrongIn.2.1 23 = .ok (.aload_n 0, 1) := by decide +kernel
theorem dk_Md_wrongIn_24 : decode mi_Md_wrongIn.2.1 24 = .ok (.iload_n 1, 1) := by decide +kernel
theorem dk_Md_wrongIn_25 : decode mi_Md_wrongIn.2.1 25 = .ok (.iload_n 3, 1) := by decide +kernel
theorem dk_Md_wrongIn_26 : decode mi_Md_wrongIn.2.1 26 = .ok (.invokevirtual 230, 3) := by decide +kernel
theorem dk_Md_wrongIn_29 : decode mi_Md_wrongIn.2.1 29 = .ok (.invokevirtual 248, 3) := by decide +kernel
theorem dk_Md_wrongIn_32 : decode mi_Md_wrongIn.2.1 32 = .ok (.iinc 3 1, 3) := by decide +kernel
theorem dk_Md_wrongIn_35 : decode mi_Md_wrongIn.2.1 35 = .ok (.goto (-33), 3) := by decide +kernel
theorem dk_Md_wrongIn_38 : decode mi_Md_wrongIn.2.1 38 = .ok (.iconst (-1), 1) := by decide +kernel
theorem dk_Md_wrongIn_39 : decode mi_Md_wrongIn.2.1 39 = .ok (.ireturn, 1) := by decide +kernel
def Md_wrongIn_l2 (k_38 : nm_St → Option (Int32 × nm_St)) : Nat → Int32 → Int32 → Int32 → nm_St → Option (Int32 × nm_St)
  | 0, _, _, _, _ => none
  | n + 1, x1, x2, x3, σ =>
    (if x2 ≤ x3 then
      k_38 σ
    else
      ((Md_intAt x1 x3 σ).bind fun q2 =>
      ((Md_can q2.1 q2.2).bind fun q3 =>
      (if q3.1 = 0 then
        some (x3, q3.2)
      else
        ((Md_intAt x1 x3 q3.2).bind fun q5 =>
        ((Md_comes q5.1 q5.2).bind fun q6 =>
        (Md_wrongIn_l2 k_38 n) x1 x2 (x3 + (1 : Int32)) q6.2))))))
set_option maxRecDepth 100000 in
set_option maxHeartbeats 4000000 in
theorem r_Md_wrongIn_l2 (X : nm_X) (F : nm_F) (hF0 : 4 ≤ nm_d F) (k_38 : nm_St → Option (Int32 × nm_St)) (hk_38 : ∀ (σ : nm_St), Rn X mi_Md_wrongIn F (nm_Qf X F nm_wI) [] [] 38 σ (k_38 σ)) : ∀ (n : Nat) (x1 : Int32) (x2 : Int32) (x3 : Int32) (σ : nm_St), Rn X mi_Md_wrongIn F (nm_Qf X F nm_wI) [(0, .ref 70), (1, .int x1), (2, .int x2), (3, .int x3)] [] 2 σ (Md_wrongIn_l2 k_38 n x1 x2 x3 σ) := by
  intro n
  induction n with
  | zero =>
    intro x1 x2 x3 σ
    exact rn_none
  | succ n ih =>
    intro x1 x2 x3 σ
    unfold Md_wrongIn_l2
    refine rn_iload_n (pc := 2) 3 dk_Md_wrongIn_2 rfl rfl ?_
    refine rn_iload_n (pc := 3) 2 dk_Md_wrongIn_3 rfl rfl ?_
    refine rn_icmp_ge (pc := 4) 38 dk_Md_wrongIn_4 (by decide) (fun c1 => ?_) (fun c1 => ?_)
    · exact rn_sub (by rfl) (hk_38 σ)
    · refine rn_aload_n (pc := 7) 0 dk_Md_wrongIn_7 rfl rfl rfl ?_
      refine rn_aload_n (pc := 8) 0 dk_Md_wrongIn_8 rfl rfl rfl ?_
      refine rn_iload_n (pc := 9) 1 dk_Md_wrongIn_9 rfl rfl ?_
      refine rn_iload_n (pc := 10) 3 dk_Md_wrongIn_10 rfl rfl ?_
      refine cl_Md_230 (pc := 11) (As := [.int x1, .int x3]) (st := [.ref 70]) rfl (ct_Md_intAt X x1 x3 σ) (Nat.le_trans (Nat.le_of_ble_eq_true rfl) hF0) rfl rfl (Nat.le_of_ble_eq_true rfl) dk_Md_wrongIn_11 (fun q2 => ?_)
      refine cl_Md_245 (pc := 14) (As := [.int q2.1]) (st := []) rfl (ct_Md_can X q2.1 q2.2) (Nat.le_trans (Nat.le_of_ble_eq_true rfl) hF0) rfl rfl (Nat.le_of_ble_eq_true rfl) dk_Md_wrongIn_14 (fun q3 => ?_)
      refine rn_if_ne (pc := 17) 22 dk_Md_wrongIn_17 (by decide) (fun c4 => ?_) (fun c4 => ?_)
      · refine rn_aload_n (pc := 22) 0 dk_Md_wrongIn_22 rfl rfl rfl ?_
        refine rn_aload_n (pc := 23) 0 dk_Md_wrongIn_23 rfl rfl rfl ?_
        refine rn_iload_n (pc := 24) 1 dk_Md_wrongIn_24 rfl rfl ?_
        refine rn_iload_n (pc := 25) 3 dk_Md_wrongIn_25 rfl rfl ?_
        refine cl_Md_230 (pc := 26) (As := [.int x1, .int x3]) (st := [.ref 70]) rfl (ct_Md_intAt X x1 x3 q3.2) (Nat.le_trans (Nat.le_of_ble_eq_true rfl) hF0) rfl rfl (Nat.le_of_ble_eq_true rfl) dk_Md_wrongIn_26 (fun q5 => ?_)
        refine cl_Md_248 (pc := 29) (As := [.int q5.1]) (st := []) rfl (ct_Md_comes X q5.1 q5.2) (Nat.le_trans (Nat.le_of_ble_eq_true rfl) hF0) rfl rfl (Nat.le_of_ble_eq_true rfl) dk_Md_wrongIn_29 (fun q6 => ?_)
        refine rn_iinc (pc := 32) (1 : Int32) dk_Md_wrongIn_32 cn_i_1 rfl rfl rfl ?_
        refine rn_goto (pc := 35) 2 dk_Md_wrongIn_35 (by decide) ?_
        exact rn_sub (by rfl) (ih x1 x2 (x3 + (1 : Int32)) q6.2)
      · refine rn_iload_n (pc := 20) 3 dk_Md_wrongIn_20 rfl rfl ?_
        exact rn_iret rfl dk_Md_wrongIn_21
def Md_wrongIn (p1 : Int32) (p2 : Int32) (σ : nm_St) : Option (Int32 × nm_St) :=
  Md_wrongIn_l2 (fun (s7 : nm_St) =>
    some ((-1 : Int32), s7)) 400 p1 p2 (0 : Int32) σ
set_option maxRecDepth 100000 in
set_option maxHeartbeats 4000000 in
theorem ct_Md_wrongIn (X : nm_X) (p1 : Int32) (p2 : Int32) (σ : nm_St) : Ct X mi_Md_wrongIn 4 nm_wI [.ref 70, .int p1, .int p2] σ (Md_wrongIn p1 p2 σ) := by
  refine Ct.of (by decide +kernel) rfl (fun F hF0 => ?_)
  unfold Md_wrongIn
  refine rn_iconst (pc := 0) (0 : Int32) dk_Md_wrongIn_0 cn_i_0 ?_
  refine rn_istore_n (pc := 1) 3 dk_Md_wrongIn_1 rfl rfl rfl ?_
  refine rn_sub (by rfl) (r_Md_wrongIn_l2 X F hF0 _ (fun s7 => ?_) 400 p1 p2 (0 : Int32) σ)
  refine rn_iconst (pc := 38) (-1 : Int32) dk_Md_wrongIn_38 cn_i_m1 ?_
  exact rn_iret rfl dk_Md_wrongIn_39
theorem dk_Md_judge_0 : decode mi_Md_judge.2.1 0 = .ok (.aload_n 0, 1) := by decide +kernel
theorem dk_Md_judge_1 : decode mi_Md_judge.2.1 1 = .ok (.iload_n 1, 1) := by decide +kernel
theorem dk_Md_judge_2 : decode mi_Md_judge.2.1 2 = .ok (.iload_n 2, 1) := by decide +kernel
theorem dk_Md_judge_3 : decode mi_Md_judge.2.1 3 = .ok (.invokevirtual 227, 3) := by decide +kernel
theorem dk_Md_judge_6 : decode mi_Md_judge.2.1 6 = .ok (.istore_n 3, 1) := by decide +kernel
theorem dk_Md_judge_7 : decode mi_Md_judge.2.1 7 = .ok (.iload_n 3, 1) := by decide +kernel
theorem dk_Md_judge_8 : decode mi_Md_judge.2.1 8 = .ok (.ifCond .eq 9, 3) := by decide +kernel
theorem dk_Md_judge_11 : decode mi_Md_judge.2.1 11 = .ok (.aload_n 0, 1) := by decide +kernel
theorem dk_Md_judge_12 : decode mi_Md_judge.2.1 12 = .ok (.iload_n 3, 1) := by decide +kernel
theorem dk_Md_judge_13 : decode mi_Md_judge.2.1 13 = .ok (.invokevirtual 195, 3) := by decide +kernel
theorem dk_Md_judge_16 : decode mi_Md_judge.2.1 16 = .ok (.ireturn, 1) := by decide +kernel
theorem dk_Md_judge_17 : decode mi_Md_judge.2.1 17 = .ok (.aload_n 0, 1) := by decide +kernel
theorem dk_Md_judge_18 : decode mi_Md_judge.2.1 18 = .ok (.aload_n 0, 1) := by decide +kernel
theorem dk_Md_judge_19 : decode mi_Md_judge.2.1 19 = .ok (.getfield 78, 3) := by decide +kernel
theorem dk_Md_judge_22 : decode mi_Md_judge.2.1 22 = .ok (.iconst 0, 1) := by decide +kernel
theorem dk_Md_judge_23 : decode mi_Md_judge.2.1 23 = .ok (.invokevirtual 167, 3) := by decide +kernel
theorem dk_Md_judge_26 : decode mi_Md_judge.2.1 26 = .ok (.aload_n 0, 1) := by decide +kernel
theorem dk_Md_judge_27 : decode mi_Md_judge.2.1 27 = .ok (.iload_n 1, 1) := by decide +kernel
theorem dk_Md_judge_28 : decode mi_Md_judge.2.1 28 = .ok (.iload_n 2, 1) := by decide +kernel
theorem dk_Md_judge_29 : decode mi_Md_judge.2.1 29 = .ok (.invokevirtual 252, 3) := by decide +kernel
theorem dk_Md_judge_32 : decode mi_Md_judge.2.1 32 = .ok (.istore 4, 2) := by decide +kernel
theorem dk_Md_judge_34 : decode mi_Md_judge.2.1 34 = .ok (.aload_n 0, 1) := by decide +kernel
theorem dk_Md_judge_35 : decode mi_Md_judge.2.1 35 = .ok (.aload_n 0, 1) := by decide +kernel
theorem dk_Md_judge_36 : decode mi_Md_judge.2.1 36 = .ok (.getfield 78, 3) := by decide +kernel
theorem dk_Md_judge_39 : decode mi_Md_judge.2.1 39 = .ok (.iconst 1, 1) := by decide +kernel
theorem dk_Md_judge_40 : decode mi_Md_judge.2.1 40 = .ok (.invokevirtual 167, 3) := by decide +kernel
theorem dk_Md_judge_43 : decode mi_Md_judge.2.1 43 = .ok (.iload 4, 2) := by decide +kernel
theorem dk_Md_judge_45 : decode mi_Md_judge.2.1 45 = .ok (.ireturn, 1) := by decide +kernel
def Md_judge (p1 : Int32) (p2 : Int32) (σ : nm_St) : Option (Int32 × nm_St) :=
  ((Md_barsOf p1 p2 σ).bind fun q1 =>
  (if q1.1 = 0 then
    ((Md_all 89 (0 : Int32) q1.2).bind fun q3 =>
    ((Md_wrongIn p1 p2 q3.2).bind fun q4 =>
    ((Md_all 89 (1 : Int32) q4.2).bind fun q5 =>
    some (q4.1, q5.2))))
  else
    ((Md_noTen q1.1 q1.2).bind fun q6 =>
    some (q6.1, q6.2))))
set_option maxRecDepth 100000 in
set_option maxHeartbeats 4000000 in
theorem ct_Md_judge (X : nm_X) (p1 : Int32) (p2 : Int32) (σ : nm_St) : Ct X mi_Md_judge 5 nm_wI [.ref 70, .int p1, .int p2] σ (Md_judge p1 p2 σ) := by
  refine Ct.of (by decide +kernel) rfl (fun F hF0 => ?_)
  unfold Md_judge
  refine rn_aload_n (pc := 0) 0 dk_Md_judge_0 rfl rfl rfl ?_
  refine rn_iload_n (pc := 1) 1 dk_Md_judge_1 rfl rfl ?_
  refine rn_iload_n (pc := 2) 2 dk_Md_judge_2 rfl rfl ?_
  refine cl_Md_227 (pc := 3) (As := [.int p1, .int p2]) (st := []) rfl (ct_Md_barsOf X p1 p2 σ) (Nat.le_trans (Nat.le_of_ble_eq_true rfl) hF0) rfl rfl (Nat.le_of_ble_eq_true rfl) dk_Md_judge_3 (fun q1 => ?_)
  refine rn_istore_n (pc := 6) 3 dk_Md_judge_6 rfl rfl rfl ?_
  refine rn_iload_n (pc := 7) 3 dk_Md_judge_7 rfl rfl ?_
  refine rn_if_eq (pc := 8) 17 dk_Md_judge_8 (by decide) (fun c2 => ?_) (fun c2 => ?_)
  · refine rn_aload_n (pc := 17) 0 dk_Md_judge_17 rfl rfl rfl ?_
    refine rn_aload_n (pc := 18) 0 dk_Md_judge_18 rfl rfl rfl ?_
    refine gf_Md_78 (pc := 19) rfl dk_Md_judge_19 ?_
    refine rn_iconst (pc := 22) (0 : Int32) dk_Md_judge_22 cn_i_0 ?_
    refine cl_Md_167 (pc := 23) (As := [.ref 89, .int (0 : Int32)]) (st := []) rfl (ct_Md_all X 89 rfl (0 : Int32) q1.2) (Nat.le_trans (Nat.le_of_ble_eq_true rfl) hF0) rfl rfl (Nat.le_of_ble_eq_true rfl) dk_Md_judge_23 (fun q3 => ?_)
    refine rn_aload_n (pc := 26) 0 dk_Md_judge_26 rfl rfl rfl ?_
    refine rn_iload_n (pc := 27) 1 dk_Md_judge_27 rfl rfl ?_
    refine rn_iload_n (pc := 28) 2 dk_Md_judge_28 rfl rfl ?_
    refine cl_Md_252 (pc := 29) (As := [.int p1, .int p2]) (st := []) rfl (ct_Md_wrongIn X p1 p2 q3.2) (Nat.le_trans (Nat.le_of_ble_eq_true rfl) hF0) rfl rfl (Nat.le_of_ble_eq_true rfl) dk_Md_judge_29 (fun q4 => ?_)
    refine rn_istore (pc := 32) dk_Md_judge_32 rfl rfl ?_
    refine rn_aload_n (pc := 34) 0 dk_Md_judge_34 rfl rfl rfl ?_
    refine rn_aload_n (pc := 35) 0 dk_Md_judge_35 rfl rfl rfl ?_
    refine gf_Md_78 (pc := 36) rfl dk_Md_judge_36 ?_
    refine rn_iconst (pc := 39) (1 : Int32) dk_Md_judge_39 cn_i_1 ?_
    refine cl_Md_167 (pc := 40) (As := [.ref 89, .int (1 : Int32)]) (st := []) rfl (ct_Md_all X 89 rfl (1 : Int32) q4.2) (Nat.le_trans (Nat.le_of_ble_eq_true rfl) hF0) rfl rfl (Nat.le_of_ble_eq_true rfl) dk_Md_judge_40 (fun q5 => ?_)
    refine rn_iload (pc := 43) dk_Md_judge_43 rfl ?_
    exact rn_iret rfl dk_Md_judge_45
  · refine rn_aload_n (pc := 11) 0 dk_Md_judge_11 rfl rfl rfl ?_
    refine rn_iload_n (pc := 12) 3 dk_Md_judge_12 rfl rfl ?_
    refine cl_Md_195 (pc := 13) (As := [.int q1.1]) (st := []) rfl (ct_Md_noTen X q1.1 q1.2) (Nat.le_trans (Nat.le_of_ble_eq_true rfl) hF0) rfl rfl (Nat.le_of_ble_eq_true rfl) dk_Md_judge_13 (fun q6 => ?_)
    exact rn_iret rfl dk_Md_judge_16
theorem dk_Md_behind_0 : decode mi_Md_behind.2.1 0 = .ok (.aload_n 0, 1) := by decide +kernel
theorem dk_Md_behind_1 : decode mi_Md_behind.2.1 1 = .ok (.iload_n 1, 1) := by decide +kernel
theorem dk_Md_behind_2 : decode mi_Md_behind.2.1 2 = .ok (.invokevirtual 164, 3) := by decide +kernel
theorem dk_Md_behind_5 : decode mi_Md_behind.2.1 5 = .ok (.istore 4, 2) := by decide +kernel
theorem dk_Md_behind_7 : decode mi_Md_behind.2.1 7 = .ok (.iload 4, 2) := by decide +kernel
theorem dk_Md_behind_9 : decode mi_Md_behind.2.1 9 = .ok (.ifCond .ne 50, 3) := by decide +kernel
theorem dk_Md_behind_12 : decode mi_Md_behind.2.1 12 = .ok (.iload_n 2, 1) := by decide +kernel
theorem dk_Md_behind_13 : decode mi_Md_behind.2.1 13 = .ok (.ifCond .ge 8, 3) := by decide +kernel
theorem dk_Md_behind_16 : decode mi_Md_behind.2.1 16 = .ok (.bipush (-4), 2) := by decide +kernel
theorem dk_Md_behind_18 : decode mi_Md_behind.2.1 18 = .ok (.goto 39, 3) := by decide +kernel
theorem dk_Md_behind_21 : decode mi_Md_behind.2.1 21 = .ok (.iload_n 2, 1) := by decide +kernel
theorem dk_Md_behind_22 : decode mi_Md_behind.2.1 22 = .ok (.aload_n 0, 1) := by decide +kernel
theorem dk_Md_behind_23 : decode mi_Md_behind.2.1 23 = .ok (.getfield 50, 3) := by decide +kernel
theorem dk_Md_behind_26 : decode mi_Md_behind.2.1 26 = .ok (.iload_n 1, 1) := by decide +kernel
theorem dk_Md_behind_27 : decode mi_Md_behind.2.1 27 = .ok (.iaload, 1) := by decide +kernel
theorem dk_Md_behind_28 : decode mi_Md_behind.2.1 28 = .ok (.if_icmp .gt 12, 3) := by decide +kernel
theorem dk_Md_behind_31 : decode mi_Md_behind.2.1 31 = .ok (.iload_n 3, 1) := by decide +kernel
theorem dk_Md_behind_32 : decode mi_Md_behind.2.1 32 = .ok (.ifCond .lt 8, 3) := by decide +kernel
theorem dk_Md_behind_35 : decode mi_Md_behind.2.1 35 = .ok (.iload_n 3, 1) := by decide +kernel
theorem dk_Md_behind_36 : decode mi_Md_behind.2.1 36 = .ok (.iconst 2, 1) := by decide +kernel
theorem dk_Md_behind_37 : decode mi_Md_behind.2.1 37 = .ok (.if_icmp .le 8, 3) := by decide +kernel
theorem dk_Md_behind_40 : decode mi_Md_behind.2.1 40 = .ok (.bipush (-5), 2) := by decide +kernel
theorem dk_Md_behind_42 : decode mi_Md_behind.2.1 42 = .ok (.goto 15, 3) := by decide +kernel
theorem dk_Md_behind_45 : decode mi_Md_behind.2.1 45 = .ok (.iload_n 2, 1) := by decide +kernel
theorem dk_Md_behind_46 : decode mi_Md_behind.2.1 46 = .ok (.bipush 40, 2) := by decide +kernel
theorem dk_Md_behind_48 : decode mi_Md_behind.2.1 48 = .ok (.if_icmp .le 8, 3) := by decide +kernel
theorem dk_Md_behind_51 : decode mi_Md_behind.2.1 51 = .ok (.bipush (-6), 2) := by decide +kernel
theorem dk_Md_behind_53 : decode mi_Md_behind.2.1 53 = .ok (.goto 4, 3) := by decide +kernel
theorem dk_Md_behind_56 : decode mi_Md_behind.2.1 56 = .ok (.iconst 0, 1) := by decide +kernel
theorem dk_Md_behind_57 : decode mi_Md_behind.2.1 57 = .ok (.istore 4, 2) := by decide +kernel
theorem dk_Md_behind_59 : decode mi_Md_behind.2.1 59 = .ok (.iload 4, 2) := by decide +kernel
theorem dk_Md_behind_61 : decode mi_Md_behind.2.1 61 = .ok (.ifCond .eq 10, 3) := by decide +kernel
theorem dk_Md_behind_64 : decode mi_Md_behind.2.1 64 = .ok (.aload_n 0, 1) := by decide +kernel
theorem dk_Md_behind_65 : decode mi_Md_behind.2.1 65 = .ok (.iload 4, 2) := by decide +kernel
theorem dk_Md_behind_67 : decode mi_Md_behind.2.1 67 = .ok (.invokevirtual 97, 3) := by decide +kernel
theorem dk_Md_behind_70 : decode mi_Md_behind.2.1 70 = .ok (.ireturn, 1) := by decide +kernel
theorem dk_Md_behind_71 : decode mi_Md_behind.2.1 71 = .ok (.aload_n 0, 1) := by decide +kernel
theorem dk_Md_behind_72 : decode mi_Md_behind.2.1 72 = .ok (.aload_n 0, 1) := by decide +kernel
theorem dk_Md_behind_73 : decode mi_Md_behind.2.1 73 = .ok (.getfield 78, 3) := by decide +kernel
theorem dk_Md_behind_76 : decode mi_Md_behind.2.1 76 = .ok (.iconst 0, 1) := by decide +kernel
theorem dk_Md_behind_77 : decode mi_Md_behind.2.1 77 = .ok (.invokevirtual 167, 3) := by decide +kernel
theorem dk_Md_behind_80 : decode mi_Md_behind.2.1 80 = .ok (.aload_n 0, 1) := by decide +kernel
theorem dk_Md_behind_81 : decode mi_Md_behind.2.1 81 = .ok (.iload_n 1, 1) := by decide +kernel
theorem dk_Md_behind_82 : decode mi_Md_behind.2.1 82 = .ok (.iload_n 2, 1) := by decide +kernel
theorem dk_Md_behind_83 : decode mi_Md_behind.2.1 83 = .ok (.invokevirtual 252, 3) := by decide +kernel
theorem dk_Md_behind_86 : decode mi_Md_behind.2.1 86 = .ok (.istore 5, 2) := by decide +kernel
theorem dk_Md_behind_88 : decode mi_Md_behind.2.1 88 = .ok (.iload_n 3, 1) := by decide +kernel
theorem dk_Md_behind_89 : decode mi_Md_behind.2.1 89 = .ok (.ifCond .ne 23, 3) := by decide +kernel
theorem dk_Md_behind_92 : decode mi_Md_behind.2.1 92 = .ok (.aload_n 0, 1) := by decide +kernel
theorem dk_Md_behind_93 : decode mi_Md_behind.2.1 93 = .ok (.aload_n 0, 1) := by decide +kernel
theorem dk_Md_behind_94 : decode mi_Md_behind.2.1 94 = .ok (.iconst 1, 1) := by decide +kernel
theorem dk_Md_behind_95 : decode mi_Md_behind.2.1 95 = .ok (.invokevirtual 183, 3) := by decide +kernel
theorem dk_Md_behind_98 : decode mi_Md_behind.2.1 98 = .ok (.invokevirtual 186, 3) := by decide +kernel
theorem dk_Md_behind_101 : decode mi_Md_behind.2.1 101 = .ok (.ifCond .eq 7, 3) := by decide +kernel
theorem dk_Md_behind_104 : decode mi_Md_behind.2.1 104 = .ok (.iconst 1, 1) := by decide +kernel
theorem dk_Md_behind_105 : decode mi_Md_behind.2.1 105 = .ok (.goto 23, 3) := by decide +kernel
theorem dk_Md_behind_108 : decode mi_Md_behind.2.1 108 = .ok (.iconst 0, 1) := by decide +kernel
theorem dk_Md_behind_109 : decode mi_Md_behind.2.1 109 = .ok (.goto 19, 3) := by decide +kernel
theorem dk_Md_behind_112 : decode mi_Md_behind.2.1 112 = .ok (.iload_n 3, 1) := by decide +kernel
theorem dk_Md_behind_113 : decode mi_Md_behind.2.1 113 = .ok (.iconst 1, 1) := by decide +kernel
theorem dk_Md_behind_114 : decode mi_Md_behind.2.1 114 = .ok (.if_icmp .ne 10, 3) := by decide +kernel
theorem dk_Md_behind_117 : decode mi_Md_behind.2.1 117 = .ok (.aload_n 0, 1) := by decide +kernel
theorem dk_Md_behind_118 : decode mi_Md_behind.2.1 118 = .ok (.getfield 13, 3) := by decide +kernel
theorem dk_Md_behind_121 : decode mi_Md_behind.2.1 121 = .ok (.goto 7, 3) := by decide +kernel
theorem dk_Md_behind_124 : decode mi_Md_behind.2.1 124 = .ok (.aload_n 0, 1) := by decide +kernel
theorem dk_Md_behind_125 : decode mi_Md_behind.2.1 125 = .ok (.getfield 118, 3) := by decide +kernel
theorem dk_Md_behind_128 : decode mi_Md_behind.2.1 128 = .ok (.istore 6, 2) := by decide +kernel
theorem dk_Md_behind_130 : decode mi_Md_behind.2.1 130 = .ok (.aload_n 0, 1) := by decide +kernel
theorem dk_Md_behind_131 : decode mi_Md_behind.2.1 131 = .ok (.aload_n 0, 1) := by decide +kernel
theorem dk_Md_behind_132 : decode mi_Md_behind.2.1 132 = .ok (.getfield 78, 3) := by decide +kernel
theorem dk_Md_behind_135 : decode mi_Md_behind.2.1 135 = .ok (.iconst 1, 1) := by decide +kernel
theorem dk_Md_behind_136 : decode mi_Md_behind.2.1 136 = .ok (.invokevirtual 167, 3) := by decide +kernel
theorem dk_Md_behind_139 : decode mi_Md_behind.2.1 139 = .ok (.iload 5, 2) := by decide +kernel
theorem dk_Md_behind_141 : decode mi_Md_behind.2.1 141 = .ok (.iconst (-1), 1) := by decide +kernel
theorem dk_Md_behind_142 : decode mi_Md_behind.2.1 142 = .ok (.if_icmp .ne 8, 3) := by decide +kernel
theorem dk_Md_behind_145 : decode mi_Md_behind.2.1 145 = .ok (.iload 6, 2) := by decide +kernel
theorem dk_Md_behind_147 : decode mi_Md_behind.2.1 147 = .ok (.goto 9, 3) := by decide +kernel
theorem dk_Md_behind_150 : decode mi_Md_behind.2.1 150 = .ok (.aload_n 0, 1) := by decide +kernel
theorem dk_Md_behind_151 : decode mi_Md_behind.2.1 151 = .ok (.bipush (-6), 2) := by decide +kernel
theorem dk_Md_behind_153 : decode mi_Md_behind.2.1 153 = .ok (.invokevirtual 97, 3) := by decide +kernel
theorem dk_Md_behind_156 : decode mi_Md_behind.2.1 156 = .ok (.ireturn, 1) := by decide +kernel
def Md_behind_j128 (x5 : Int32) (y0 : Int32) (σ : nm_St) : Option (Int32 × nm_St) :=
  ((Md_all 89 (1 : Int32) σ).bind fun q8 =>
  (if x5 = (-1 : Int32) then
    some (y0, q8.2)
  else
    ((Md_no (-6 : Int32) q8.2).bind fun q10 =>
    some (q10.1, q10.2))))
set_option maxRecDepth 100000 in
set_option maxHeartbeats 4000000 in
theorem r_Md_behind_j128 (X : nm_X) (F : nm_F) (hF0 : 5 ≤ nm_d F) (x5 : Int32) (y0 : Int32) (σ : nm_St) : Rn X mi_Md_behind F (nm_Qf X F nm_wI) [(0, .ref 70), (5, .int x5)] [.int y0] 128 σ (Md_behind_j128 x5 y0 σ) := by
  unfold Md_behind_j128
  refine rn_istore (pc := 128) dk_Md_behind_128 rfl rfl ?_
  refine rn_aload_n (pc := 130) 0 dk_Md_behind_130 rfl rfl rfl ?_
  refine rn_aload_n (pc := 131) 0 dk_Md_behind_131 rfl rfl rfl ?_
  refine gf_Md_78 (pc := 132) rfl dk_Md_behind_132 ?_
  refine rn_iconst (pc := 135) (1 : Int32) dk_Md_behind_135 cn_i_1 ?_
  refine cl_Md_167 (pc := 136) (As := [.ref 89, .int (1 : Int32)]) (st := []) rfl (ct_Md_all X 89 rfl (1 : Int32) σ) (Nat.le_trans (Nat.le_of_ble_eq_true rfl) hF0) rfl rfl (Nat.le_of_ble_eq_true rfl) dk_Md_behind_136 (fun q8 => ?_)
  refine rn_iload (pc := 139) dk_Md_behind_139 rfl ?_
  refine rn_iconst (pc := 141) (-1 : Int32) dk_Md_behind_141 cn_i_m1 ?_
  refine rn_icmp_ne (pc := 142) 150 dk_Md_behind_142 (by decide) (fun c9 => ?_) (fun c9 => ?_)
  · refine rn_aload_n (pc := 150) 0 dk_Md_behind_150 rfl rfl rfl ?_
    refine rn_bipush (pc := 151) (-6 : Int32) dk_Md_behind_151 cn_b_m6 ?_
    refine cl_Md_97 (pc := 153) (As := [.int (-6 : Int32)]) (st := []) rfl (ct_Md_no X (-6 : Int32) q8.2) (Nat.le_trans (Nat.le_of_ble_eq_true rfl) hF0) rfl rfl (Nat.le_of_ble_eq_true rfl) dk_Md_behind_153 (fun q10 => ?_)
    exact rn_iret rfl dk_Md_behind_156
  · refine rn_iload (pc := 145) dk_Md_behind_145 rfl ?_
    refine rn_goto (pc := 147) 156 dk_Md_behind_147 (by decide) ?_
    exact rn_iret rfl dk_Md_behind_156
def Md_behind_j59 (x1 : Int32) (x2 : Int32) (x3 : Int32) (x4 : Int32) (σ : nm_St) : Option (Int32 × nm_St) :=
  (if x4 = 0 then
    ((Md_all 89 (0 : Int32) σ).bind fun q4 =>
    ((Md_wrongIn x1 x2 q4.2).bind fun q5 =>
    (if x3 = 0 then
      ((Md_those (1 : Int32) q5.2).bind fun q11 =>
      ((Md_isMade q11.1 q11.2).bind fun q12 =>
      (if q12.1 = 0 then
        Md_behind_j128 q5.1 (0 : Int32) q12.2
      else
        Md_behind_j128 q5.1 (1 : Int32) q12.2)))
    else
      (if x3 = (1 : Int32) then
        Md_behind_j128 q5.1 (q5.2.1 70 3) q5.2
      else
        Md_behind_j128 q5.1 (q5.2.1 70 2) q5.2))))
  else
    ((Md_no x4 σ).bind fun q14 =>
    some (q14.1, q14.2)))
set_option maxRecDepth 100000 in
set_option maxHeartbeats 4000000 in
theorem r_Md_behind_j59 (X : nm_X) (F : nm_F) (hF0 : 5 ≤ nm_d F) (x1 : Int32) (x2 : Int32) (x3 : Int32) (x4 : Int32) (σ : nm_St) : Rn X mi_Md_behind F (nm_Qf X F nm_wI) [(0, .ref 70), (1, .int x1), (2, .int x2), (3, .int x3), (4, .int x4)] [] 59 σ (Md_behind_j59 x1 x2 x3 x4 σ) := by
  unfold Md_behind_j59
  refine rn_iload (pc := 59) dk_Md_behind_59 rfl ?_
  refine rn_if_eq (pc := 61) 71 dk_Md_behind_61 (by decide) (fun c3 => ?_) (fun c3 => ?_)
  · refine rn_aload_n (pc := 71) 0 dk_Md_behind_71 rfl rfl rfl ?_
    refine rn_aload_n (pc := 72) 0 dk_Md_behind_72 rfl rfl rfl ?_
    refine gf_Md_78 (pc := 73) rfl dk_Md_behind_73 ?_
    refine rn_iconst (pc := 76) (0 : Int32) dk_Md_behind_76 cn_i_0 ?_
    refine cl_Md_167 (pc := 77) (As := [.ref 89, .int (0 : Int32)]) (st := []) rfl (ct_Md_all X 89 rfl (0 : Int32) σ) (Nat.le_trans (Nat.le_of_ble_eq_true rfl) hF0) rfl rfl (Nat.le_of_ble_eq_true rfl) dk_Md_behind_77 (fun q4 => ?_)
    refine rn_aload_n (pc := 80) 0 dk_Md_behind_80 rfl rfl rfl ?_
    refine rn_iload_n (pc := 81) 1 dk_Md_behind_81 rfl rfl ?_
    refine rn_iload_n (pc := 82) 2 dk_Md_behind_82 rfl rfl ?_
    refine cl_Md_252 (pc := 83) (As := [.int x1, .int x2]) (st := []) rfl (ct_Md_wrongIn X x1 x2 q4.2) (Nat.le_trans (Nat.le_of_ble_eq_true rfl) hF0) rfl rfl (Nat.le_of_ble_eq_true rfl) dk_Md_behind_83 (fun q5 => ?_)
    refine rn_istore (pc := 86) dk_Md_behind_86 rfl rfl ?_
    refine rn_iload_n (pc := 88) 3 dk_Md_behind_88 rfl rfl ?_
    refine rn_if_ne (pc := 89) 112 dk_Md_behind_89 (by decide) (fun c6 => ?_) (fun c6 => ?_)
    · refine rn_iload_n (pc := 112) 3 dk_Md_behind_112 rfl rfl ?_
      refine rn_iconst (pc := 113) (1 : Int32) dk_Md_behind_113 cn_i_1 ?_
      refine rn_icmp_ne (pc := 114) 124 dk_Md_behind_114 (by decide) (fun c7 => ?_) (fun c7 => ?_)
      · refine rn_aload_n (pc := 124) 0 dk_Md_behind_124 rfl rfl rfl ?_
        refine gf_Md_118 (pc := 125) rfl dk_Md_behind_125 ?_
        exact rn_sub (by rfl) (r_Md_behind_j128 X F hF0 q5.1 (q5.2.1 70 2) q5.2)
      · refine rn_aload_n (pc := 117) 0 dk_Md_behind_117 rfl rfl rfl ?_
        refine gf_Md_13 (pc := 118) rfl dk_Md_behind_118 ?_
        refine rn_goto (pc := 121) 128 dk_Md_behind_121 (by decide) ?_
        exact rn_sub (by rfl) (r_Md_behind_j128 X F hF0 q5.1 (q5.2.1 70 3) q5.2)
    · refine rn_aload_n (pc := 92) 0 dk_Md_behind_92 rfl rfl rfl ?_
      refine rn_aload_n (pc := 93) 0 dk_Md_behind_93 rfl rfl rfl ?_
      refine rn_iconst (pc := 94) (1 : Int32) dk_Md_behind_94 cn_i_1 ?_
      refine cl_Md_183 (pc := 95) (As := [.int (1 : Int32)]) (st := [.ref 70]) rfl (ct_Md_those X (1 : Int32) q5.2) (Nat.le_trans (Nat.le_of_ble_eq_true rfl) hF0) rfl rfl (Nat.le_of_ble_eq_true rfl) dk_Md_behind_95 (fun q11 => ?_)
      refine cl_Md_186 (pc := 98) (As := [.int q11.1]) (st := []) rfl (ct_Md_isMade X q11.1 q11.2) (Nat.le_trans (Nat.le_of_ble_eq_true rfl) hF0) rfl rfl (Nat.le_of_ble_eq_true rfl) dk_Md_behind_98 (fun q12 => ?_)
      refine rn_if_eq (pc := 101) 108 dk_Md_behind_101 (by decide) (fun c13 => ?_) (fun c13 => ?_)
      · refine rn_iconst (pc := 108) (0 : Int32) dk_Md_behind_108 cn_i_0 ?_
        refine rn_goto (pc := 109) 128 dk_Md_behind_109 (by decide) ?_
        exact rn_sub (by rfl) (r_Md_behind_j128 X F hF0 q5.1 (0 : Int32) q12.2)
      · refine rn_iconst (pc := 104) (1 : Int32) dk_Md_behind_104 cn_i_1 ?_
        refine rn_goto (pc := 105) 128 dk_Md_behind_105 (by decide) ?_
        exact rn_sub (by rfl) (r_Md_behind_j128 X F hF0 q5.1 (1 : Int32) q12.2)
  · refine rn_aload_n (pc := 64) 0 dk_Md_behind_64 rfl rfl rfl ?_
    refine rn_iload (pc := 65) dk_Md_behind_65 rfl ?_
    refine cl_Md_97 (pc := 67) (As := [.int x4]) (st := []) rfl (ct_Md_no X x4 σ) (Nat.le_trans (Nat.le_of_ble_eq_true rfl) hF0) rfl rfl (Nat.le_of_ble_eq_true rfl) dk_Md_behind_67 (fun q14 => ?_)
    exact rn_iret rfl dk_Md_behind_70
def Md_behind_j57 (x1 : Int32) (x2 : Int32) (x3 : Int32) (y0 : Int32) (σ : nm_St) : Option (Int32 × nm_St) :=
  Md_behind_j59 x1 x2 x3 y0 σ
set_option maxRecDepth 100000 in
set_option maxHeartbeats 4000000 in
theorem r_Md_behind_j57 (X : nm_X) (F : nm_F) (hF0 : 5 ≤ nm_d F) (x1 : Int32) (x2 : Int32) (x3 : Int32) (y0 : Int32) (σ : nm_St) : Rn X mi_Md_behind F (nm_Qf X F nm_wI) [(0, .ref 70), (1, .int x1), (2, .int x2), (3, .int x3)] [.int y0] 57 σ (Md_behind_j57 x1 x2 x3 y0 σ) := by
  unfold Md_behind_j57
  refine rn_istore (pc := 57) dk_Md_behind_57 rfl rfl ?_
  exact rn_sub (by rfl) (r_Md_behind_j59 X F hF0 x1 x2 x3 y0 σ)
def Md_behind_j40 (x1 : Int32) (x2 : Int32) (x3 : Int32) (σ : nm_St) : Option (Int32 × nm_St) :=
  Md_behind_j57 x1 x2 x3 (-5 : Int32) σ
set_option maxRecDepth 100000 in
set_option maxHeartbeats 4000000 in
theorem r_Md_behind_j40 (X : nm_X) (F : nm_F) (hF0 : 5 ≤ nm_d F) (x1 : Int32) (x2 : Int32) (x3 : Int32) (σ : nm_St) : Rn X mi_Md_behind F (nm_Qf X F nm_wI) [(0, .ref 70), (1, .int x1), (2, .int x2), (3, .int x3)] [] 40 σ (Md_behind_j40 x1 x2 x3 σ) := by
  unfold Md_behind_j40
  refine rn_bipush (pc := 40) (-5 : Int32) dk_Md_behind_40 cn_b_m5 ?_
  refine rn_goto (pc := 42) 57 dk_Md_behind_42 (by decide) ?_
  exact rn_sub (by rfl) (r_Md_behind_j57 X F hF0 x1 x2 x3 (-5 : Int32) σ)
def Md_behind (p1 : Int32) (p2 : Int32) (p3 : Int32) (σ : nm_St) : Option (Int32 × nm_St) :=
  ((Md_wanted p1 σ).bind fun q1 =>
  (if q1.1 = 0 then
    (if 0 ≤ p2 then
      (nm_g (nm_in p1 8) (
      (if (q1.2.1 80 p1.toNatClampNeg) < p2 then
        Md_behind_j40 p1 p2 p3 q1.2
      else
        (if p3 < 0 then
          Md_behind_j40 p1 p2 p3 q1.2
        else
          (if p3 ≤ (2 : Int32) then
            (if p2 ≤ (40 : Int32) then
              Md_behind_j57 p1 p2 p3 (0 : Int32) q1.2
            else
              Md_behind_j57 p1 p2 p3 (-6 : Int32) q1.2)
          else
            Md_behind_j40 p1 p2 p3 q1.2)))))
    else
      Md_behind_j57 p1 p2 p3 (-4 : Int32) q1.2)
  else
    Md_behind_j59 p1 p2 p3 q1.1 q1.2))
set_option maxRecDepth 100000 in
set_option maxHeartbeats 4000000 in
theorem ct_Md_behind (X : nm_X) (p1 : Int32) (p2 : Int32) (p3 : Int32) (σ : nm_St) : Ct X mi_Md_behind 5 nm_wI [.ref 70, .int p1, .int p2, .int p3] σ (Md_behind p1 p2 p3 σ) := by
  refine Ct.of (by decide +kernel) rfl (fun F hF0 => ?_)
  unfold Md_behind
  refine rn_aload_n (pc := 0) 0 dk_Md_behind_0 rfl rfl rfl ?_
  refine rn_iload_n (pc := 1) 1 dk_Md_behind_1 rfl rfl ?_
  refine cl_Md_164 (pc := 2) (As := [.int p1]) (st := []) rfl (ct_Md_wanted X p1 σ) (Nat.le_trans (Nat.le_of_ble_eq_true rfl) hF0) rfl rfl (Nat.le_of_ble_eq_true rfl) dk_Md_behind_2 (fun q1 => ?_)
  refine rn_istore (pc := 5) dk_Md_behind_5 rfl rfl ?_
  refine rn_iload (pc := 7) dk_Md_behind_7 rfl ?_
  refine rn_if_ne (pc := 9) 59 dk_Md_behind_9 (by decide) (fun c2 => ?_) (fun c2 => ?_)
  · exact rn_sub (by rfl) (r_Md_behind_j59 X F hF0 p1 p2 p3 q1.1 q1.2)
  · refine rn_iload_n (pc := 12) 2 dk_Md_behind_12 rfl rfl ?_
    refine rn_if_ge (pc := 13) 21 dk_Md_behind_13 (by decide) (fun c15 => ?_) (fun c15 => ?_)
    · refine rn_iload_n (pc := 21) 2 dk_Md_behind_21 rfl rfl ?_
      refine rn_aload_n (pc := 22) 0 dk_Md_behind_22 rfl rfl rfl ?_
      refine gf_Md_50 (pc := 23) rfl dk_Md_behind_23 ?_
      refine rn_iload_n (pc := 26) 1 dk_Md_behind_26 rfl rfl ?_
      refine rn_iaload (pc := 27) rfl dk_Md_behind_27 (fun g16 => ?_)
      refine rn_icmp_gt (pc := 28) 40 dk_Md_behind_28 (by decide) (fun c17 => ?_) (fun c17 => ?_)
      · exact rn_sub (by rfl) (r_Md_behind_j40 X F hF0 p1 p2 p3 q1.2)
      · refine rn_iload_n (pc := 31) 3 dk_Md_behind_31 rfl rfl ?_
        refine rn_if_lt (pc := 32) 40 dk_Md_behind_32 (by decide) (fun c18 => ?_) (fun c18 => ?_)
        · exact rn_sub (by rfl) (r_Md_behind_j40 X F hF0 p1 p2 p3 q1.2)
        · refine rn_iload_n (pc := 35) 3 dk_Md_behind_35 rfl rfl ?_
          refine rn_iconst (pc := 36) (2 : Int32) dk_Md_behind_36 cn_i_2 ?_
          refine rn_icmp_le (pc := 37) 45 dk_Md_behind_37 (by decide) (fun c19 => ?_) (fun c19 => ?_)
          · refine rn_iload_n (pc := 45) 2 dk_Md_behind_45 rfl rfl ?_
            refine rn_bipush (pc := 46) (40 : Int32) dk_Md_behind_46 cn_b_40 ?_
            refine rn_icmp_le (pc := 48) 56 dk_Md_behind_48 (by decide) (fun c20 => ?_) (fun c20 => ?_)
            · refine rn_iconst (pc := 56) (0 : Int32) dk_Md_behind_56 cn_i_0 ?_
              exact rn_sub (by rfl) (r_Md_behind_j57 X F hF0 p1 p2 p3 (0 : Int32) q1.2)
            · refine rn_bipush (pc := 51) (-6 : Int32) dk_Md_behind_51 cn_b_m6 ?_
              refine rn_goto (pc := 53) 57 dk_Md_behind_53 (by decide) ?_
              exact rn_sub (by rfl) (r_Md_behind_j57 X F hF0 p1 p2 p3 (-6 : Int32) q1.2)
          · exact rn_sub (by rfl) (r_Md_behind_j40 X F hF0 p1 p2 p3 q1.2)
    · refine rn_bipush (pc := 16) (-4 : Int32) dk_Md_behind_16 cn_b_m4 ?_
      refine rn_goto (pc := 18) 57 dk_Md_behind_18 (by decide) ?_
      exact rn_sub (by rfl) (r_Md_behind_j57 X F hF0 p1 p2 p3 (-4 : Int32) q1.2)
theorem dk_Md_done_0 : decode mi_Md_done.2.1 0 = .ok (.aload_n 0, 1) := by decide +kernel
theorem dk_Md_done_1 : decode mi_Md_done.2.1 1 = .ok (.iload_n 1, 1) := by decide +kernel
theorem dk_Md_done_2 : decode mi_Md_done.2.1 2 = .ok (.iload_n 2, 1) := by decide +kernel
theorem dk_Md_done_3 : decode mi_Md_done.2.1 3 = .ok (.invokevirtual 227, 3) := by decide +kernel
theorem dk_Md_done_6 : decode mi_Md_done.2.1 6 = .ok (.istore_n 3, 1) := by decide +kernel
theorem dk_Md_done_7 : decode mi_Md_done.2.1 7 = .ok (.iload_n 3, 1) := by decide +kernel
theorem dk_Md_done_8 : decode mi_Md_done.2.1 8 = .ok (.ifCond .eq 9, 3) := by decide +kernel
theorem dk_Md_done_11 : decode mi_Md_done.2.1 11 = .ok (.aload_n 0, 1) := by decide +kernel
theorem dk_Md_done_12 : decode mi_Md_done.2.1 12 = .ok (.iload_n 3, 1) := by decide +kernel
theorem dk_Md_done_13 : decode mi_Md_done.2.1 13 = .ok (.invokevirtual 97, 3) := by decide +kernel
theorem dk_Md_done_16 : decode mi_Md_done.2.1 16 = .ok (.ireturn, 1) := by decide +kernel
theorem dk_Md_done_17 : decode mi_Md_done.2.1 17 = .ok (.aload_n 0, 1) := by decide +kernel
theorem dk_Md_done_18 : decode mi_Md_done.2.1 18 = .ok (.aload_n 0, 1) := by decide +kernel
theorem dk_Md_done_19 : decode mi_Md_done.2.1 19 = .ok (.getfield 78, 3) := by decide +kernel
theorem dk_Md_done_22 : decode mi_Md_done.2.1 22 = .ok (.iconst 0, 1) := by decide +kernel
theorem dk_Md_done_23 : decode mi_Md_done.2.1 23 = .ok (.invokevirtual 167, 3) := by decide +kernel
theorem dk_Md_done_26 : decode mi_Md_done.2.1 26 = .ok (.aload_n 0, 1) := by decide +kernel
theorem dk_Md_done_27 : decode mi_Md_done.2.1 27 = .ok (.iload_n 1, 1) := by decide +kernel
theorem dk_Md_done_28 : decode mi_Md_done.2.1 28 = .ok (.iload_n 2, 1) := by decide +kernel
theorem dk_Md_done_29 : decode mi_Md_done.2.1 29 = .ok (.invokevirtual 252, 3) := by decide +kernel
theorem dk_Md_done_32 : decode mi_Md_done.2.1 32 = .ok (.iconst (-1), 1) := by decide +kernel
theorem dk_Md_done_33 : decode mi_Md_done.2.1 33 = .ok (.if_icmp .ne 8, 3) := by decide +kernel
theorem dk_Md_done_36 : decode mi_Md_done.2.1 36 = .ok (.aload_n 0, 1) := by decide +kernel
theorem dk_Md_done_37 : decode mi_Md_done.2.1 37 = .ok (.getfield 161, 3) := by decide +kernel
theorem dk_Md_done_40 : decode mi_Md_done.2.1 40 = .ok (.ireturn, 1) := by decide +kernel
theorem dk_Md_done_41 : decode mi_Md_done.2.1 41 = .ok (.aload_n 0, 1) := by decide +kernel
theorem dk_Md_done_42 : decode mi_Md_done.2.1 42 = .ok (.aload_n 0, 1) := by decide +kernel
theorem dk_Md_done_43 : decode mi_Md_done.2.1 43 = .ok (.getfield 78, 3) := by decide +kernel
theorem dk_Md_done_46 : decode mi_Md_done.2.1 46 = .ok (.iconst 1, 1) := by decide +kernel
theorem dk_Md_done_47 : decode mi_Md_done.2.1 47 = .ok (.invokevirtual 167, 3) := by decide +kernel
theorem dk_Md_done_50 : decode mi_Md_done.2.1 50 = .ok (.aload_n 0, 1) := by decide +kernel
theorem dk_Md_done_51 : decode mi_Md_done.2.1 51 = .ok (.bipush (-6), 2) := by decide +kernel
theorem dk_Md_done_53 : decode mi_Md_done.2.1 53 = .ok (.invokevirtual 97, 3) := by decide +kernel
theorem dk_Md_done_56 : decode mi_Md_done.2.1 56 = .ok (.ireturn, 1) := by decide +kernel
def Md_done (p1 : Int32) (p2 : Int32) (σ : nm_St) : Option (Int32 × nm_St) :=
  ((Md_barsOf p1 p2 σ).bind fun q1 =>
  (if q1.1 = 0 then
    ((Md_all 89 (0 : Int32) q1.2).bind fun q3 =>
    ((Md_wrongIn p1 p2 q3.2).bind fun q4 =>
    (if q4.1 = (-1 : Int32) then
      some ((q4.2.1 70 4), q4.2)
    else
      ((Md_all 89 (1 : Int32) q4.2).bind fun q6 =>
      ((Md_no (-6 : Int32) q6.2).bind fun q7 =>
      some (q7.1, q7.2))))))
  else
    ((Md_no q1.1 q1.2).bind fun q8 =>
    some (q8.1, q8.2))))
set_option maxRecDepth 100000 in
set_option maxHeartbeats 4000000 in
theorem ct_Md_done (X : nm_X) (p1 : Int32) (p2 : Int32) (σ : nm_St) : Ct X mi_Md_done 5 nm_wI [.ref 70, .int p1, .int p2] σ (Md_done p1 p2 σ) := by
  refine Ct.of (by decide +kernel) rfl (fun F hF0 => ?_)
  unfold Md_done
  refine rn_aload_n (pc := 0) 0 dk_Md_done_0 rfl rfl rfl ?_
  refine rn_iload_n (pc := 1) 1 dk_Md_done_1 rfl rfl ?_
  refine rn_iload_n (pc := 2) 2 dk_Md_done_2 rfl rfl ?_
  refine cl_Md_227 (pc := 3) (As := [.int p1, .int p2]) (st := []) rfl (ct_Md_barsOf X p1 p2 σ) (Nat.le_trans (Nat.le_of_ble_eq_true rfl) hF0) rfl rfl (Nat.le_of_ble_eq_true rfl) dk_Md_done_3 (fun q1 => ?_)
  refine rn_istore_n (pc := 6) 3 dk_Md_done_6 rfl rfl rfl ?_
  refine rn_iload_n (pc := 7) 3 dk_Md_done_7 rfl rfl ?_
  refine rn_if_eq (pc := 8) 17 dk_Md_done_8 (by decide) (fun c2 => ?_) (fun c2 => ?_)
  · refine rn_aload_n (pc := 17) 0 dk_Md_done_17 rfl rfl rfl ?_
    refine rn_aload_n (pc := 18) 0 dk_Md_done_18 rfl rfl rfl ?_
    refine gf_Md_78 (pc := 19) rfl dk_Md_done_19 ?_
    refine rn_iconst (pc := 22) (0 : Int32) dk_Md_done_22 cn_i_0 ?_
    refine cl_Md_167 (pc := 23) (As := [.ref 89, .int (0 : Int32)]) (st := []) rfl (ct_Md_all X 89 rfl (0 : Int32) q1.2) (Nat.le_trans (Nat.le_of_ble_eq_true rfl) hF0) rfl rfl (Nat.le_of_ble_eq_true rfl) dk_Md_done_23 (fun q3 => ?_)
    refine rn_aload_n (pc := 26) 0 dk_Md_done_26 rfl rfl rfl ?_
    refine rn_iload_n (pc := 27) 1 dk_Md_done_27 rfl rfl ?_
    refine rn_iload_n (pc := 28) 2 dk_Md_done_28 rfl rfl ?_
    refine cl_Md_252 (pc := 29) (As := [.int p1, .int p2]) (st := []) rfl (ct_Md_wrongIn X p1 p2 q3.2) (Nat.le_trans (Nat.le_of_ble_eq_true rfl) hF0) rfl rfl (Nat.le_of_ble_eq_true rfl) dk_Md_done_29 (fun q4 => ?_)
    refine rn_iconst (pc := 32) (-1 : Int32) dk_Md_done_32 cn_i_m1 ?_
    refine rn_icmp_ne (pc := 33) 41 dk_Md_done_33 (by decide) (fun c5 => ?_) (fun c5 => ?_)
    · refine rn_aload_n (pc := 41) 0 dk_Md_done_41 rfl rfl rfl ?_
      refine rn_aload_n (pc := 42) 0 dk_Md_done_42 rfl rfl rfl ?_
      refine gf_Md_78 (pc := 43) rfl dk_Md_done_43 ?_
      refine rn_iconst (pc := 46) (1 : Int32) dk_Md_done_46 cn_i_1 ?_
      refine cl_Md_167 (pc := 47) (As := [.ref 89, .int (1 : Int32)]) (st := []) rfl (ct_Md_all X 89 rfl (1 : Int32) q4.2) (Nat.le_trans (Nat.le_of_ble_eq_true rfl) hF0) rfl rfl (Nat.le_of_ble_eq_true rfl) dk_Md_done_47 (fun q6 => ?_)
      refine rn_aload_n (pc := 50) 0 dk_Md_done_50 rfl rfl rfl ?_
      refine rn_bipush (pc := 51) (-6 : Int32) dk_Md_done_51 cn_b_m6 ?_
      refine cl_Md_97 (pc := 53) (As := [.int (-6 : Int32)]) (st := []) rfl (ct_Md_no X (-6 : Int32) q6.2) (Nat.le_trans (Nat.le_of_ble_eq_true rfl) hF0) rfl rfl (Nat.le_of_ble_eq_true rfl) dk_Md_done_53 (fun q7 => ?_)
      exact rn_iret rfl dk_Md_done_56
    · refine rn_aload_n (pc := 36) 0 dk_Md_done_36 rfl rfl rfl ?_
      refine gf_Md_161 (pc := 37) rfl dk_Md_done_37 ?_
      exact rn_iret rfl dk_Md_done_40
  · refine rn_aload_n (pc := 11) 0 dk_Md_done_11 rfl rfl rfl ?_
    refine rn_iload_n (pc := 12) 3 dk_Md_done_12 rfl rfl ?_
    refine cl_Md_97 (pc := 13) (As := [.int q1.1]) (st := []) rfl (ct_Md_no X q1.1 q1.2) (Nat.le_trans (Nat.le_of_ble_eq_true rfl) hF0) rfl rfl (Nat.le_of_ble_eq_true rfl) dk_Md_done_13 (fun q8 => ?_)
    exact rn_iret rfl dk_Md_done_16
theorem dk_Md_bid_0 : decode mi_Md_bid.2.1 0 = .ok (.aload_n 0, 1) := by decide +kernel
theorem dk_Md_bid_1 : decode mi_Md_bid.2.1 1 = .ok (.iload_n 1, 1) := by decide +kernel
theorem dk_Md_bid_2 : decode mi_Md_bid.2.1 2 = .ok (.invokevirtual 101, 3) := by decide +kernel
theorem dk_Md_bid_5 : decode mi_Md_bid.2.1 5 = .ok (.ifCond .ne 9, 3) := by decide +kernel
theorem dk_Md_bid_8 : decode mi_Md_bid.2.1 8 = .ok (.aload_n 0, 1) := by decide +kernel
theorem dk_Md_bid_9 : decode mi_Md_bid.2.1 9 = .ok (.iconst (-1), 1) := by decide +kernel
theorem dk_Md_bid_10 : decode mi_Md_bid.2.1 10 = .ok (.invokevirtual 97, 3) := by decide +kernel
theorem dk_Md_bid_13 : decode mi_Md_bid.2.1 13 = .ok (.ireturn, 1) := by decide +kernel
theorem dk_Md_bid_14 : decode mi_Md_bid.2.1 14 = .ok (.iload_n 2, 1) := by decide +kernel
theorem dk_Md_bid_15 : decode mi_Md_bid.2.1 15 = .ok (.ifCond .lt 20, 3) := by decide +kernel
theorem dk_Md_bid_18 : decode mi_Md_bid.2.1 18 = .ok (.iload_n 2, 1) := by decide +kernel
theorem dk_Md_bid_19 : decode mi_Md_bid.2.1 19 = .ok (.aload_n 0, 1) := by decide +kernel
theorem dk_Md_bid_20 : decode mi_Md_bid.2.1 20 = .ok (.getfield 13, 3) := by decide +kernel
theorem dk_Md_bid_23 : decode mi_Md_bid.2.1 23 = .ok (.if_icmp .gt 12, 3) := by decide +kernel
theorem dk_Md_bid_26 : decode mi_Md_bid.2.1 26 = .ok (.aload_n 0, 1) := by decide +kernel
theorem dk_Md_bid_27 : decode mi_Md_bid.2.1 27 = .ok (.getfield 41, 3) := by decide +kernel
theorem dk_Md_bid_30 : decode mi_Md_bid.2.1 30 = .ok (.iload_n 1, 1) := by decide +kernel
theorem dk_Md_bid_31 : decode mi_Md_bid.2.1 31 = .ok (.iaload, 1) := by decide +kernel
theorem dk_Md_bid_32 : decode mi_Md_bid.2.1 32 = .ok (.ifCond .eq 10, 3) := by decide +kernel
theorem dk_Md_bid_35 : decode mi_Md_bid.2.1 35 = .ok (.aload_n 0, 1) := by decide +kernel
theorem dk_Md_bid_36 : decode mi_Md_bid.2.1 36 = .ok (.bipush (-6), 2) := by decide +kernel
theorem dk_Md_bid_38 : decode mi_Md_bid.2.1 38 = .ok (.invokevirtual 97, 3) := by decide +kernel
theorem dk_Md_bid_41 : decode mi_Md_bid.2.1 41 = .ok (.ireturn, 1) := by decide +kernel
theorem dk_Md_bid_42 : decode mi_Md_bid.2.1 42 = .ok (.iload_n 2, 1) := by decide +kernel
theorem dk_Md_bid_43 : decode mi_Md_bid.2.1 43 = .ok (.aload_n 0, 1) := by decide +kernel
theorem dk_Md_bid_44 : decode mi_Md_bid.2.1 44 = .ok (.iload_n 1, 1) := by decide +kernel
theorem dk_Md_bid_45 : decode mi_Md_bid.2.1 45 = .ok (.invokevirtual 107, 3) := by decide +kernel
theorem dk_Md_bid_48 : decode mi_Md_bid.2.1 48 = .ok (.if_icmp .ge 5, 3) := by decide +kernel
theorem dk_Md_bid_51 : decode mi_Md_bid.2.1 51 = .ok (.iconst 0, 1) := by decide +kernel
theorem dk_Md_bid_52 : decode mi_Md_bid.2.1 52 = .ok (.ireturn, 1) := by decide +kernel
theorem dk_Md_bid_53 : decode mi_Md_bid.2.1 53 = .ok (.aload_n 0, 1) := by decide +kernel
theorem dk_Md_bid_54 : decode mi_Md_bid.2.1 54 = .ok (.dup, 1) := by decide +kernel
theorem dk_Md_bid_55 : decode mi_Md_bid.2.1 55 = .ok (.getfield 13, 3) := by decide +kernel
theorem dk_Md_bid_58 : decode mi_Md_bid.2.1 58 = .ok (.iload_n 2, 1) := by decide +kernel
theorem dk_Md_bid_59 : decode mi_Md_bid.2.1 59 = .ok (.isub, 1) := by decide +kernel
theorem dk_Md_bid_60 : decode mi_Md_bid.2.1 60 = .ok (.putfield 13, 3) := by decide +kernel
theorem dk_Md_bid_63 : decode mi_Md_bid.2.1 63 = .ok (.aload_n 0, 1) := by decide +kernel
theorem dk_Md_bid_64 : decode mi_Md_bid.2.1 64 = .ok (.getfield 41, 3) := by decide +kernel
theorem dk_Md_bid_67 : decode mi_Md_bid.2.1 67 = .ok (.iload_n 1, 1) := by decide +kernel
theorem dk_Md_bid_68 : decode mi_Md_bid.2.1 68 = .ok (.iconst 1, 1) := by decide +kernel
theorem dk_Md_bid_69 : decode mi_Md_bid.2.1 69 = .ok (.iastore, 1) := by decide +kernel
theorem dk_Md_bid_70 : decode mi_Md_bid.2.1 70 = .ok (.iconst 1, 1) := by decide +kernel
theorem dk_Md_bid_71 : decode mi_Md_bid.2.1 71 = .ok (.ireturn, 1) := by decide +kernel
def Md_bid (p1 : Int32) (p2 : Int32) (σ : nm_St) : Option (Int32 × nm_St) :=
  ((Md_isMaker p1 σ).bind fun q1 =>
  (if q1.1 = 0 then
    ((Md_no (-1 : Int32) q1.2).bind fun q15 =>
    some (q15.1, q15.2))
  else
    (if p2 < 0 then
      ((Md_no (-6 : Int32) q1.2).bind fun q4 =>
      some (q4.1, q4.2))
    else
      (if (q1.2.1 70 3) < p2 then
        ((Md_no (-6 : Int32) q1.2).bind fun q6 =>
        some (q6.1, q6.2))
      else
        (nm_g (nm_in p1 8) (
        (if (q1.2.1 77 p1.toNatClampNeg) = 0 then
          ((Md_price p1 q1.2).bind fun q9 =>
          (if q9.1 ≤ p2 then
            (nm_let (nm_pI q9.2 70 3 ((q9.2.1 70 3) - p2)) fun s11 =>
            (nm_g (nm_in p1 8) (
            (nm_let (nm_pI s11 77 p1.toNatClampNeg (1 : Int32)) fun s13 =>
            some ((1 : Int32), s13)))))
          else
            some ((0 : Int32), q9.2)))
        else
          ((Md_no (-6 : Int32) q1.2).bind fun q14 =>
          some (q14.1, q14.2)))))))))
set_option maxRecDepth 100000 in
set_option maxHeartbeats 4000000 in
theorem ct_Md_bid (X : nm_X) (p1 : Int32) (p2 : Int32) (σ : nm_St) : Ct X mi_Md_bid 3 nm_wI [.ref 70, .int p1, .int p2] σ (Md_bid p1 p2 σ) := by
  refine Ct.of (by decide +kernel) rfl (fun F hF0 => ?_)
  unfold Md_bid
  refine rn_aload_n (pc := 0) 0 dk_Md_bid_0 rfl rfl rfl ?_
  refine rn_iload_n (pc := 1) 1 dk_Md_bid_1 rfl rfl ?_
  refine cl_Md_101 (pc := 2) (As := [.int p1]) (st := []) rfl (ct_Md_isMaker X p1 σ) (Nat.le_trans (Nat.le_of_ble_eq_true rfl) hF0) rfl rfl (Nat.le_of_ble_eq_true rfl) dk_Md_bid_2 (fun q1 => ?_)
  refine rn_if_ne (pc := 5) 14 dk_Md_bid_5 (by decide) (fun c2 => ?_) (fun c2 => ?_)
  · refine rn_iload_n (pc := 14) 2 dk_Md_bid_14 rfl rfl ?_
    refine rn_if_lt (pc := 15) 35 dk_Md_bid_15 (by decide) (fun c3 => ?_) (fun c3 => ?_)
    · refine rn_aload_n (pc := 35) 0 dk_Md_bid_35 rfl rfl rfl ?_
      refine rn_bipush (pc := 36) (-6 : Int32) dk_Md_bid_36 cn_b_m6 ?_
      refine cl_Md_97 (pc := 38) (As := [.int (-6 : Int32)]) (st := []) rfl (ct_Md_no X (-6 : Int32) q1.2) (Nat.le_trans (Nat.le_of_ble_eq_true rfl) hF0) rfl rfl (Nat.le_of_ble_eq_true rfl) dk_Md_bid_38 (fun q4 => ?_)
      exact rn_iret rfl dk_Md_bid_41
    · refine rn_iload_n (pc := 18) 2 dk_Md_bid_18 rfl rfl ?_
      refine rn_aload_n (pc := 19) 0 dk_Md_bid_19 rfl rfl rfl ?_
      refine gf_Md_13 (pc := 20) rfl dk_Md_bid_20 ?_
      refine rn_icmp_gt (pc := 23) 35 dk_Md_bid_23 (by decide) (fun c5 => ?_) (fun c5 => ?_)
      · refine rn_aload_n (pc := 35) 0 dk_Md_bid_35 rfl rfl rfl ?_
        refine rn_bipush (pc := 36) (-6 : Int32) dk_Md_bid_36 cn_b_m6 ?_
        refine cl_Md_97 (pc := 38) (As := [.int (-6 : Int32)]) (st := []) rfl (ct_Md_no X (-6 : Int32) q1.2) (Nat.le_trans (Nat.le_of_ble_eq_true rfl) hF0) rfl rfl (Nat.le_of_ble_eq_true rfl) dk_Md_bid_38 (fun q6 => ?_)
        exact rn_iret rfl dk_Md_bid_41
      · refine rn_aload_n (pc := 26) 0 dk_Md_bid_26 rfl rfl rfl ?_
        refine gf_Md_41 (pc := 27) rfl dk_Md_bid_27 ?_
        refine rn_iload_n (pc := 30) 1 dk_Md_bid_30 rfl rfl ?_
        refine rn_iaload (pc := 31) rfl dk_Md_bid_31 (fun g7 => ?_)
        refine rn_if_eq (pc := 32) 42 dk_Md_bid_32 (by decide) (fun c8 => ?_) (fun c8 => ?_)
        · refine rn_iload_n (pc := 42) 2 dk_Md_bid_42 rfl rfl ?_
          refine rn_aload_n (pc := 43) 0 dk_Md_bid_43 rfl rfl rfl ?_
          refine rn_iload_n (pc := 44) 1 dk_Md_bid_44 rfl rfl ?_
          refine cl_Md_107 (pc := 45) (As := [.int p1]) (st := [.int p2]) rfl (ct_Md_price X p1 q1.2) (Nat.le_trans (Nat.le_of_ble_eq_true rfl) hF0) rfl rfl (Nat.le_of_ble_eq_true rfl) dk_Md_bid_45 (fun q9 => ?_)
          refine rn_icmp_ge (pc := 48) 53 dk_Md_bid_48 (by decide) (fun c10 => ?_) (fun c10 => ?_)
          · refine rn_aload_n (pc := 53) 0 dk_Md_bid_53 rfl rfl rfl ?_
            refine rn_dup (pc := 54) dk_Md_bid_54 rfl ?_
            refine gf_Md_13 (pc := 55) rfl dk_Md_bid_55 ?_
            refine rn_iload_n (pc := 58) 2 dk_Md_bid_58 rfl rfl ?_
            refine rn_isub (pc := 59) dk_Md_bid_59 ?_
            refine pf_Md_13 (pc := 60) rfl dk_Md_bid_60 ?_
            refine rn_lets (fun s11 => ?_)
            refine rn_aload_n (pc := 63) 0 dk_Md_bid_63 rfl rfl rfl ?_
            refine gf_Md_41 (pc := 64) rfl dk_Md_bid_64 ?_
            refine rn_iload_n (pc := 67) 1 dk_Md_bid_67 rfl rfl ?_
            refine rn_iconst (pc := 68) (1 : Int32) dk_Md_bid_68 cn_i_1 ?_
            refine rn_iastore (pc := 69) rfl dk_Md_bid_69 (fun g12 => ?_)
            refine rn_lets (fun s13 => ?_)
            refine rn_iconst (pc := 70) (1 : Int32) dk_Md_bid_70 cn_i_1 ?_
            exact rn_iret rfl dk_Md_bid_71
          · refine rn_iconst (pc := 51) (0 : Int32) dk_Md_bid_51 cn_i_0 ?_
            exact rn_iret rfl dk_Md_bid_52
        · refine rn_aload_n (pc := 35) 0 dk_Md_bid_35 rfl rfl rfl ?_
          refine rn_bipush (pc := 36) (-6 : Int32) dk_Md_bid_36 cn_b_m6 ?_
          refine cl_Md_97 (pc := 38) (As := [.int (-6 : Int32)]) (st := []) rfl (ct_Md_no X (-6 : Int32) q1.2) (Nat.le_trans (Nat.le_of_ble_eq_true rfl) hF0) rfl rfl (Nat.le_of_ble_eq_true rfl) dk_Md_bid_38 (fun q14 => ?_)
          exact rn_iret rfl dk_Md_bid_41
  · refine rn_aload_n (pc := 8) 0 dk_Md_bid_8 rfl rfl rfl ?_
    refine rn_iconst (pc := 9) (-1 : Int32) dk_Md_bid_9 cn_i_m1 ?_
    refine cl_Md_97 (pc := 10) (As := [.int (-1 : Int32)]) (st := []) rfl (ct_Md_no X (-1 : Int32) q1.2) (Nat.le_trans (Nat.le_of_ble_eq_true rfl) hF0) rfl rfl (Nat.le_of_ble_eq_true rfl) dk_Md_bid_10 (fun q15 => ?_)
    exact rn_iret rfl dk_Md_bid_13
theorem dk_Md_deed_0 : decode mi_Md_deed.2.1 0 = .ok (.aload_n 0, 1) := by decide +kernel
theorem dk_Md_deed_1 : decode mi_Md_deed.2.1 1 = .ok (.iload_n 1, 1) := by decide +kernel
theorem dk_Md_deed_2 : decode mi_Md_deed.2.1 2 = .ok (.invokevirtual 101, 3) := by decide +kernel
theorem dk_Md_deed_5 : decode mi_Md_deed.2.1 5 = .ok (.ifCond .ne 9, 3) := by decide +kernel
theorem dk_Md_deed_8 : decode mi_Md_deed.2.1 8 = .ok (.aload_n 0, 1) := by decide +kernel
theorem dk_Md_deed_9 : decode mi_Md_deed.2.1 9 = .ok (.iconst (-1), 1) := by decide +kernel
theorem dk_Md_deed_10 : decode mi_Md_deed.2.1 10 = .ok (.invokevirtual 97, 3) := by decide +kernel
theorem dk_Md_deed_13 : decode mi_Md_deed.2.1 13 = .ok (.ireturn, 1) := by decide +kernel
theorem dk_Md_deed_14 : decode mi_Md_deed.2.1 14 = .ok (.iload_n 2, 1) := by decide +kernel
theorem dk_Md_deed_15 : decode mi_Md_deed.2.1 15 = .ok (.ifCond .lt 8, 3) := by decide +kernel
theorem dk_Md_deed_18 : decode mi_Md_deed.2.1 18 = .ok (.iload_n 2, 1) := by decide +kernel
theorem dk_Md_deed_19 : decode mi_Md_deed.2.1 19 = .ok (.iconst 2, 1) := by decide +kernel
theorem dk_Md_deed_20 : decode mi_Md_deed.2.1 20 = .ok (.if_icmp .le 10, 3) := by decide +kernel
theorem dk_Md_deed_23 : decode mi_Md_deed.2.1 23 = .ok (.aload_n 0, 1) := by decide +kernel
theorem dk_Md_deed_24 : decode mi_Md_deed.2.1 24 = .ok (.bipush (-5), 2) := by decide +kernel
theorem dk_Md_deed_26 : decode mi_Md_deed.2.1 26 = .ok (.invokevirtual 97, 3) := by decide +kernel
theorem dk_Md_deed_29 : decode mi_Md_deed.2.1 29 = .ok (.ireturn, 1) := by decide +kernel
theorem dk_Md_deed_30 : decode mi_Md_deed.2.1 30 = .ok (.aload_n 0, 1) := by decide +kernel
theorem dk_Md_deed_31 : decode mi_Md_deed.2.1 31 = .ok (.iload_n 1, 1) := by decide +kernel
theorem dk_Md_deed_32 : decode mi_Md_deed.2.1 32 = .ok (.iload_n 2, 1) := by decide +kernel
theorem dk_Md_deed_33 : decode mi_Md_deed.2.1 33 = .ok (.invokevirtual 221, 3) := by decide +kernel
theorem dk_Md_deed_36 : decode mi_Md_deed.2.1 36 = .ok (.ifCond .ne 10, 3) := by decide +kernel
theorem dk_Md_deed_39 : decode mi_Md_deed.2.1 39 = .ok (.aload_n 0, 1) := by decide +kernel
theorem dk_Md_deed_40 : decode mi_Md_deed.2.1 40 = .ok (.bipush (-6), 2) := by decide +kernel
theorem dk_Md_deed_42 : decode mi_Md_deed.2.1 42 = .ok (.invokevirtual 97, 3) := by decide +kernel
theorem dk_Md_deed_45 : decode mi_Md_deed.2.1 45 = .ok (.ireturn, 1) := by decide +kernel
theorem dk_Md_deed_46 : decode mi_Md_deed.2.1 46 = .ok (.aload_n 0, 1) := by decide +kernel
theorem dk_Md_deed_47 : decode mi_Md_deed.2.1 47 = .ok (.iload_n 1, 1) := by decide +kernel
theorem dk_Md_deed_48 : decode mi_Md_deed.2.1 48 = .ok (.iload_n 2, 1) := by decide +kernel
theorem dk_Md_deed_49 : decode mi_Md_deed.2.1 49 = .ok (.invokevirtual 224, 3) := by decide +kernel
theorem dk_Md_deed_52 : decode mi_Md_deed.2.1 52 = .ok (.aload_n 0, 1) := by decide +kernel
theorem dk_Md_deed_53 : decode mi_Md_deed.2.1 53 = .ok (.getfield 118, 3) := by decide +kernel
theorem dk_Md_deed_56 : decode mi_Md_deed.2.1 56 = .ok (.ireturn, 1) := by decide +kernel
def Md_deed (p1 : Int32) (p2 : Int32) (σ : nm_St) : Option (Int32 × nm_St) :=
  ((Md_isMaker p1 σ).bind fun q1 =>
  (if q1.1 = 0 then
    ((Md_no (-1 : Int32) q1.2).bind fun q11 =>
    some (q11.1, q11.2))
  else
    (if p2 < 0 then
      ((Md_no (-5 : Int32) q1.2).bind fun q4 =>
      some (q4.1, q4.2))
    else
      (if p2 ≤ (2 : Int32) then
        ((Md_mayDeed p1 p2 q1.2).bind fun q6 =>
        (if q6.1 = 0 then
          ((Md_no (-6 : Int32) q6.2).bind fun q9 =>
          some (q9.1, q9.2))
        else
          ((Md_deeds p1 p2 q6.2).bind fun q8 =>
          some ((q8.2.1 70 2), q8.2))))
      else
        ((Md_no (-5 : Int32) q1.2).bind fun q10 =>
        some (q10.1, q10.2))))))
set_option maxRecDepth 100000 in
set_option maxHeartbeats 4000000 in
theorem ct_Md_deed (X : nm_X) (p1 : Int32) (p2 : Int32) (σ : nm_St) : Ct X mi_Md_deed 1 nm_wI [.ref 70, .int p1, .int p2] σ (Md_deed p1 p2 σ) := by
  refine Ct.of (by decide +kernel) rfl (fun F hF0 => ?_)
  unfold Md_deed
  refine rn_aload_n (pc := 0) 0 dk_Md_deed_0 rfl rfl rfl ?_
  refine rn_iload_n (pc := 1) 1 dk_Md_deed_1 rfl rfl ?_
  refine cl_Md_101 (pc := 2) (As := [.int p1]) (st := []) rfl (ct_Md_isMaker X p1 σ) (Nat.le_trans (Nat.le_of_ble_eq_true rfl) hF0) rfl rfl (Nat.le_of_ble_eq_true rfl) dk_Md_deed_2 (fun q1 => ?_)
  refine rn_if_ne (pc := 5) 14 dk_Md_deed_5 (by decide) (fun c2 => ?_) (fun c2 => ?_)
  · refine rn_iload_n (pc := 14) 2 dk_Md_deed_14 rfl rfl ?_
    refine rn_if_lt (pc := 15) 23 dk_Md_deed_15 (by decide) (fun c3 => ?_) (fun c3 => ?_)
    · refine rn_aload_n (pc := 23) 0 dk_Md_deed_23 rfl rfl rfl ?_
      refine rn_bipush (pc := 24) (-5 : Int32) dk_Md_deed_24 cn_b_m5 ?_
      refine cl_Md_97 (pc := 26) (As := [.int (-5 : Int32)]) (st := []) rfl (ct_Md_no X (-5 : Int32) q1.2) (Nat.le_trans (Nat.le_of_ble_eq_true rfl) hF0) rfl rfl (Nat.le_of_ble_eq_true rfl) dk_Md_deed_26 (fun q4 => ?_)
      exact rn_iret rfl dk_Md_deed_29
    · refine rn_iload_n (pc := 18) 2 dk_Md_deed_18 rfl rfl ?_
      refine rn_iconst (pc := 19) (2 : Int32) dk_Md_deed_19 cn_i_2 ?_
      refine rn_icmp_le (pc := 20) 30 dk_Md_deed_20 (by decide) (fun c5 => ?_) (fun c5 => ?_)
      · refine rn_aload_n (pc := 30) 0 dk_Md_deed_30 rfl rfl rfl ?_
        refine rn_iload_n (pc := 31) 1 dk_Md_deed_31 rfl rfl ?_
        refine rn_iload_n (pc := 32) 2 dk_Md_deed_32 rfl rfl ?_
        refine cl_Md_221 (pc := 33) (As := [.int p1, .int p2]) (st := []) rfl (ct_Md_mayDeed X p1 p2 q1.2) (Nat.le_trans (Nat.le_of_ble_eq_true rfl) hF0) rfl rfl (Nat.le_of_ble_eq_true rfl) dk_Md_deed_33 (fun q6 => ?_)
        refine rn_if_ne (pc := 36) 46 dk_Md_deed_36 (by decide) (fun c7 => ?_) (fun c7 => ?_)
        · refine rn_aload_n (pc := 46) 0 dk_Md_deed_46 rfl rfl rfl ?_
          refine rn_iload_n (pc := 47) 1 dk_Md_deed_47 rfl rfl ?_
          refine rn_iload_n (pc := 48) 2 dk_Md_deed_48 rfl rfl ?_
          refine cl_Md_224 (pc := 49) (As := [.int p1, .int p2]) (st := []) rfl (ct_Md_deeds X p1 p2 q6.2) (Nat.le_trans (Nat.le_of_ble_eq_true rfl) hF0) rfl rfl (Nat.le_of_ble_eq_true rfl) dk_Md_deed_49 (fun q8 => ?_)
          refine rn_aload_n (pc := 52) 0 dk_Md_deed_52 rfl rfl rfl ?_
          refine gf_Md_118 (pc := 53) rfl dk_Md_deed_53 ?_
          exact rn_iret rfl dk_Md_deed_56
        · refine rn_aload_n (pc := 39) 0 dk_Md_deed_39 rfl rfl rfl ?_
          refine rn_bipush (pc := 40) (-6 : Int32) dk_Md_deed_40 cn_b_m6 ?_
          refine cl_Md_97 (pc := 42) (As := [.int (-6 : Int32)]) (st := []) rfl (ct_Md_no X (-6 : Int32) q6.2) (Nat.le_trans (Nat.le_of_ble_eq_true rfl) hF0) rfl rfl (Nat.le_of_ble_eq_true rfl) dk_Md_deed_42 (fun q9 => ?_)
          exact rn_iret rfl dk_Md_deed_45
      · refine rn_aload_n (pc := 23) 0 dk_Md_deed_23 rfl rfl rfl ?_
        refine rn_bipush (pc := 24) (-5 : Int32) dk_Md_deed_24 cn_b_m5 ?_
        refine cl_Md_97 (pc := 26) (As := [.int (-5 : Int32)]) (st := []) rfl (ct_Md_no X (-5 : Int32) q1.2) (Nat.le_trans (Nat.le_of_ble_eq_true rfl) hF0) rfl rfl (Nat.le_of_ble_eq_true rfl) dk_Md_deed_26 (fun q10 => ?_)
        exact rn_iret rfl dk_Md_deed_29
  · refine rn_aload_n (pc := 8) 0 dk_Md_deed_8 rfl rfl rfl ?_
    refine rn_iconst (pc := 9) (-1 : Int32) dk_Md_deed_9 cn_i_m1 ?_
    refine cl_Md_97 (pc := 10) (As := [.int (-1 : Int32)]) (st := []) rfl (ct_Md_no X (-1 : Int32) q1.2) (Nat.le_trans (Nat.le_of_ble_eq_true rfl) hF0) rfl rfl (Nat.le_of_ble_eq_true rfl) dk_Md_deed_10 (fun q11 => ?_)
    exact rn_iret rfl dk_Md_deed_13
theorem dk_Md_draw_0 : decode mi_Md_draw.2.1 0 = .ok (.aload_n 0, 1) := by decide +kernel
theorem dk_Md_draw_1 : decode mi_Md_draw.2.1 1 = .ok (.aload_n 0, 1) := by decide +kernel
theorem dk_Md_draw_2 : decode mi_Md_draw.2.1 2 = .ok (.getfield 16, 3) := by decide +kernel
theorem dk_Md_draw_5 : decode mi_Md_draw.2.1 5 = .ok (.ldc 255, 2) := by decide +kernel
theorem dk_Md_draw_7 : decode mi_Md_draw.2.1 7 = .ok (.imul, 1) := by decide +kernel
theorem dk_Md_draw_8 : decode mi_Md_draw.2.1 8 = .ok (.sipush 12345, 3) := by decide +kernel
theorem dk_Md_draw_11 : decode mi_Md_draw.2.1 11 = .ok (.iadd, 1) := by decide +kernel
theorem dk_Md_draw_12 : decode mi_Md_draw.2.1 12 = .ok (.putfield 16, 3) := by decide +kernel
theorem dk_Md_draw_15 : decode mi_Md_draw.2.1 15 = .ok (.aload_n 0, 1) := by decide +kernel
theorem dk_Md_draw_16 : decode mi_Md_draw.2.1 16 = .ok (.getfield 16, 3) := by decide +kernel
theorem dk_Md_draw_19 : decode mi_Md_draw.2.1 19 = .ok (.bipush 16, 2) := by decide +kernel
theorem dk_Md_draw_21 : decode mi_Md_draw.2.1 21 = .ok (.iushr, 1) := by decide +kernel
theorem dk_Md_draw_22 : decode mi_Md_draw.2.1 22 = .ok (.iload_n 1, 1) := by decide +kernel
theorem dk_Md_draw_23 : decode mi_Md_draw.2.1 23 = .ok (.irem, 1) := by decide +kernel
theorem dk_Md_draw_24 : decode mi_Md_draw.2.1 24 = .ok (.ireturn, 1) := by decide +kernel
def Md_draw (p1 : Int32) (σ : nm_St) : Option (Int32 × nm_St) :=
  (nm_let (nm_pI σ 70 5 (((σ.1 70 5) * (1103515245 : Int32)) + (12345 : Int32))) fun s1 =>
  (nm_g (!decide (p1 = 0)) (
  some (((UInt32.toInt32 (Int32.toUInt32 (s1.1 70 5) >>> (Int32.toUInt32 (16 : Int32) &&& Int32.toUInt32 31))) - (UInt32.toInt32 (Int32.toUInt32 (s1.1 70 5) >>> (Int32.toUInt32 (16 : Int32) &&& Int32.toUInt32 31))) / p1 * p1), s1))))
set_option maxRecDepth 100000 in
set_option maxHeartbeats 4000000 in
theorem ct_Md_draw (X : nm_X) (p1 : Int32) (σ : nm_St) : Ct X mi_Md_draw 0 nm_wI [.ref 70, .int p1] σ (Md_draw p1 σ) := by
  refine Ct.of (by decide +kernel) rfl (fun F hF0 => ?_)
  unfold Md_draw
  refine rn_aload_n (pc := 0) 0 dk_Md_draw_0 rfl rfl rfl ?_
  refine rn_aload_n (pc := 1) 0 dk_Md_draw_1 rfl rfl rfl ?_
  refine gf_Md_16 (pc := 2) rfl dk_Md_draw_2 ?_
  refine rn_ldc (pc := 5) (1103515245 : Int32) dk_Md_draw_5 wd_1489 ?_
  refine rn_imul (pc := 7) dk_Md_draw_7 ?_
  refine rn_sipush (pc := 8) (12345 : Int32) dk_Md_draw_8 cn_s_12345 ?_
  refine rn_iadd (pc := 11) dk_Md_draw_11 ?_
  refine pf_Md_16 (pc := 12) rfl dk_Md_draw_12 ?_
  refine rn_lets (fun s1 => ?_)
  refine rn_aload_n (pc := 15) 0 dk_Md_draw_15 rfl rfl rfl ?_
  refine gf_Md_16 (pc := 16) rfl dk_Md_draw_16 ?_
  refine rn_bipush (pc := 19) (16 : Int32) dk_Md_draw_19 cn_b_16 ?_
  refine rn_iushr (pc := 21) dk_Md_draw_21 ?_
  refine rn_iload_n (pc := 22) 1 dk_Md_draw_22 rfl rfl ?_
  refine rn_irem (pc := 23) dk_Md_draw_23 ?_
  exact rn_iret rfl dk_Md_draw_24
theorem dk_Md_writes_0 : decode mi_Md_writes.2.1 0 = .ok (.iconst 0, 1) := by decide +kernel
theorem dk_Md_writes_1 : decode mi_Md_writes.2.1 1 = .ok (.istore_n 1, 1) := by decide +kernel
theorem dk_Md_writes_2 : decode mi_Md_writes.2.1 2 = .ok (.iconst 0, 1) := by decide +kernel
theorem dk_Md_writes_3 : decode mi_Md_writes.2.1 3 = .ok (.istore_n 2, 1) := by decide +kernel
theorem dk_Md_writes_4 : decode mi_Md_writes.2.1 4 = .ok (.iload_n 2, 1) := by decide +kernel
theorem dk_Md_writes_5 : decode mi_Md_writes.2.1 5 = .ok (.aload_n 0, 1) := by decide +kernel
theorem dk_Md_writes_6 : decode mi_Md_writes.2.1 6 = .ok (.getfield 90, 3) := by decide +kernel
theorem dk_Md_writes_9 : decode mi_Md_writes.2.1 9 = .ok (.if_icmp .ge 64, 3) := by decide +kernel
theorem dk_Md_writes_12 : decode mi_Md_writes.2.1 12 = .ok (.aload_n 0, 1) := by decide +kernel
theorem dk_Md_writes_13 : decode mi_Md_writes.2.1 13 = .ok (.getfield 41, 3) := by decide +kernel
theorem dk_Md_writes_16 : decode mi_Md_writes.2.1 16 = .ok (.iload_n 2, 1) := by decide +kernel
theorem dk_Md_writes_17 : decode mi_Md_writes.2.1 17 = .ok (.iaload, 1) := by decide +kernel
theorem dk_Md_writes_18 : decode mi_Md_writes.2.1 18 = .ok (.iconst 1, 1) := by decide +kernel
theorem dk_Md_writes_19 : decode mi_Md_writes.2.1 19 = .ok (.if_icmp .ne 48, 3) := by decide +kernel
theorem dk_Md_writes_22 : decode mi_Md_writes.2.1 22 = .ok (.aload_n 0, 1) := by decide +kernel
theorem dk_Md_writes_23 : decode mi_Md_writes.2.1 23 = .ok (.iload_n 2, 1) := by decide +kernel
theorem dk_Md_writes_24 : decode mi_Md_writes.2.1 24 = .ok (.invokevirtual 239, 3) := by decide +kernel
theorem dk_Md_writes_27 : decode mi_Md_writes.2.1 27 = .ok (.ifCond .ne 14, 3) := by decide +kernel
theorem dk_Md_writes_30 : decode mi_Md_writes.2.1 30 = .ok (.aload_n 0, 1) := by decide +kernel
theorem dk_Md_writes_31 : decode mi_Md_writes.2.1 31 = .ok (.iload_n 2, 1) := by decide +kernel
theorem dk_Md_writes_32 : decode mi_Md_writes.2.1 32 = .ok (.invokevirtual 104, 3) := by decide +kernel
theorem dk_Md_writes_35 : decode mi_Md_writes.2.1 35 = .ok (.ifCond .ne 6, 3) := by decide +kernel
theorem dk_Md_writes_38 : decode mi_Md_writes.2.1 38 = .ok (.goto 29, 3) := by decide +kernel
theorem dk_Md_writes_41 : decode mi_Md_writes.2.1 41 = .ok (.aload_n 0, 1) := by decide +kernel
theorem dk_Md_writes_42 : decode mi_Md_writes.2.1 42 = .ok (.bipush 100, 2) := by decide +kernel
theorem dk_Md_writes_44 : decode mi_Md_writes.2.1 44 = .ok (.invokevirtual 256, 3) := by decide +kernel
theorem dk_Md_writes_47 : decode mi_Md_writes.2.1 47 = .ok (.aload_n 0, 1) := by decide +kernel
theorem dk_Md_writes_48 : decode mi_Md_writes.2.1 48 = .ok (.getfield 118, 3) := by decide +kernel
theorem dk_Md_writes_51 : decode mi_Md_writes.2.1 51 = .ok (.if_icmp .lt 6, 3) := by decide +kernel
theorem dk_Md_writes_54 : decode mi_Md_writes.2.1 54 = .ok (.goto 13, 3) := by decide +kernel
theorem dk_Md_writes_57 : decode mi_Md_writes.2.1 57 = .ok (.aload_n 0, 1) := by decide +kernel
theorem dk_Md_writes_58 : decode mi_Md_writes.2.1 58 = .ok (.getfield 41, 3) := by decide +kernel
theorem dk_Md_writes_61 : decode mi_Md_writes.2.1 61 = .ok (.iload_n 2, 1) := by decide +kernel
theorem dk_Md_writes_62 : decode mi_Md_writes.2.1 62 = .ok (.iconst 0, 1) := by decide +kernel
theorem dk_Md_writes_63 : decode mi_Md_writes.2.1 63 = .ok (.iastore, 1) := by decide +kernel
theorem dk_Md_writes_64 : decode mi_Md_writes.2.1 64 = .ok (.iinc 1 1, 3) := by decide +kernel
theorem dk_Md_writes_67 : decode mi_Md_writes.2.1 67 = .ok (.iinc 2 1, 3) := by decide +kernel
theorem dk_Md_writes_70 : decode mi_Md_writes.2.1 70 = .ok (.goto (-66), 3) := by decide +kernel
theorem dk_Md_writes_73 : decode mi_Md_writes.2.1 73 = .ok (.iload_n 1, 1) := by decide +kernel
theorem dk_Md_writes_74 : decode mi_Md_writes.2.1 74 = .ok (.ireturn, 1) := by decide +kernel
def Md_writes_j41 (k_4 : Int32 → Int32 → nm_St → Option (Int32 × nm_St)) (x1 : Int32) (x2 : Int32) (σ : nm_St) : Option (Int32 × nm_St) :=
  ((Md_draw (100 : Int32) σ).bind fun q6 =>
  (if q6.1 < (q6.2.1 70 2) then
    (nm_g (nm_in x2 8) (
    (nm_let (nm_pI q6.2 77 x2.toNatClampNeg (0 : Int32)) fun s9 =>
    k_4 (x1 + (1 : Int32)) (x2 + (1 : Int32)) s9)))
  else
    k_4 x1 (x2 + (1 : Int32)) q6.2))
set_option maxRecDepth 100000 in
set_option maxHeartbeats 4000000 in
theorem r_Md_writes_j41 (X : nm_X) (F : nm_F) (hF0 : 2 ≤ nm_d F) (k_4 : Int32 → Int32 → nm_St → Option (Int32 × nm_St)) (hk_4 : ∀ (x1 : Int32) (x2 : Int32) (σ : nm_St), Rn X mi_Md_writes F (nm_Qf X F nm_wI) [(0, .ref 70), (1, .int x1), (2, .int x2)] [] 4 σ (k_4 x1 x2 σ)) (x1 : Int32) (x2 : Int32) (σ : nm_St) : Rn X mi_Md_writes F (nm_Qf X F nm_wI) [(0, .ref 70), (1, .int x1), (2, .int x2)] [] 41 σ (Md_writes_j41 k_4 x1 x2 σ) := by
  unfold Md_writes_j41
  refine rn_aload_n (pc := 41) 0 dk_Md_writes_41 rfl rfl rfl ?_
  refine rn_bipush (pc := 42) (100 : Int32) dk_Md_writes_42 cn_b_100 ?_
  refine cl_Md_256 (pc := 44) (As := [.int (100 : Int32)]) (st := []) rfl (ct_Md_draw X (100 : Int32) σ) (Nat.le_trans (Nat.le_of_ble_eq_true rfl) hF0) rfl rfl (Nat.le_of_ble_eq_true rfl) dk_Md_writes_44 (fun q6 => ?_)
  refine rn_aload_n (pc := 47) 0 dk_Md_writes_47 rfl rfl rfl ?_
  refine gf_Md_118 (pc := 48) rfl dk_Md_writes_48 ?_
  refine rn_icmp_lt (pc := 51) 57 dk_Md_writes_51 (by decide) (fun c7 => ?_) (fun c7 => ?_)
  · refine rn_aload_n (pc := 57) 0 dk_Md_writes_57 rfl rfl rfl ?_
    refine gf_Md_41 (pc := 58) rfl dk_Md_writes_58 ?_
    refine rn_iload_n (pc := 61) 2 dk_Md_writes_61 rfl rfl ?_
    refine rn_iconst (pc := 62) (0 : Int32) dk_Md_writes_62 cn_i_0 ?_
    refine rn_iastore (pc := 63) rfl dk_Md_writes_63 (fun g8 => ?_)
    refine rn_lets (fun s9 => ?_)
    refine rn_iinc (pc := 64) (1 : Int32) dk_Md_writes_64 cn_i_1 rfl rfl rfl ?_
    refine rn_iinc (pc := 67) (1 : Int32) dk_Md_writes_67 cn_i_1 rfl rfl rfl ?_
    refine rn_goto (pc := 70) 4 dk_Md_writes_70 (by decide) ?_
    exact rn_sub (by rfl) (hk_4 (x1 + (1 : Int32)) (x2 + (1 : Int32)) s9)
  · refine rn_goto (pc := 54) 67 dk_Md_writes_54 (by decide) ?_
    refine rn_iinc (pc := 67) (1 : Int32) dk_Md_writes_67 cn_i_1 rfl rfl rfl ?_
    refine rn_goto (pc := 70) 4 dk_Md_writes_70 (by decide) ?_
    exact rn_sub (by rfl) (hk_4 x1 (x2 + (1 : Int32)) q6.2)
def Md_writes_l4 (k_73 : Int32 → nm_St → Option (Int32 × nm_St)) : Nat → Int32 → Int32 → nm_St → Option (Int32 × nm_St)
  | 0, _, _, _ => none
  | n + 1, x1, x2, σ =>
    (if (σ.1 70 0) ≤ x2 then
      k_73 x1 σ
    else
      (nm_g (nm_in x2 8) (
      (if (σ.1 77 x2.toNatClampNeg) = (1 : Int32) then
        ((Md_isDouble x2 σ).bind fun q4 =>
        (if q4.1 = 0 then
          ((Md_kinHome x2 q4.2).bind fun q10 =>
          (if q10.1 = 0 then
            (Md_writes_l4 k_73 n) x1 (x2 + (1 : Int32)) q10.2
          else
            Md_writes_j41 (Md_writes_l4 k_73 n) x1 x2 q10.2))
        else
          Md_writes_j41 (Md_writes_l4 k_73 n) x1 x2 q4.2))
      else
        (Md_writes_l4 k_73 n) x1 (x2 + (1 : Int32)) σ))))
set_option maxRecDepth 100000 in
set_option maxHeartbeats 4000000 in
theorem r_Md_writes_l4 (X : nm_X) (F : nm_F) (hF0 : 2 ≤ nm_d F) (k_73 : Int32 → nm_St → Option (Int32 × nm_St)) (hk_73 : ∀ (x1 : Int32) (σ : nm_St), Rn X mi_Md_writes F (nm_Qf X F nm_wI) [(1, .int x1)] [] 73 σ (k_73 x1 σ)) : ∀ (n : Nat) (x1 : Int32) (x2 : Int32) (σ : nm_St), Rn X mi_Md_writes F (nm_Qf X F nm_wI) [(0, .ref 70), (1, .int x1), (2, .int x2)] [] 4 σ (Md_writes_l4 k_73 n x1 x2 σ) := by
  intro n
  induction n with
  | zero =>
    intro x1 x2 σ
    exact rn_none
  | succ n ih =>
    intro x1 x2 σ
    unfold Md_writes_l4
    refine rn_iload_n (pc := 4) 2 dk_Md_writes_4 rfl rfl ?_
    refine rn_aload_n (pc := 5) 0 dk_Md_writes_5 rfl rfl rfl ?_
    refine gf_Md_90 (pc := 6) rfl dk_Md_writes_6 ?_
    refine rn_icmp_ge (pc := 9) 73 dk_Md_writes_9 (by decide) (fun c1 => ?_) (fun c1 => ?_)
    · exact rn_sub (by rfl) (hk_73 x1 σ)
    · refine rn_aload_n (pc := 12) 0 dk_Md_writes_12 rfl rfl rfl ?_
      refine gf_Md_41 (pc := 13) rfl dk_Md_writes_13 ?_
      refine rn_iload_n (pc := 16) 2 dk_Md_writes_16 rfl rfl ?_
      refine rn_iaload (pc := 17) rfl dk_Md_writes_17 (fun g2 => ?_)
      refine rn_iconst (pc := 18) (1 : Int32) dk_Md_writes_18 cn_i_1 ?_
      refine rn_icmp_ne (pc := 19) 67 dk_Md_writes_19 (by decide) (fun c3 => ?_) (fun c3 => ?_)
      · refine rn_iinc (pc := 67) (1 : Int32) dk_Md_writes_67 cn_i_1 rfl rfl rfl ?_
        refine rn_goto (pc := 70) 4 dk_Md_writes_70 (by decide) ?_
        exact rn_sub (by rfl) (ih x1 (x2 + (1 : Int32)) σ)
      · refine rn_aload_n (pc := 22) 0 dk_Md_writes_22 rfl rfl rfl ?_
        refine rn_iload_n (pc := 23) 2 dk_Md_writes_23 rfl rfl ?_
        refine cl_Md_239 (pc := 24) (As := [.int x2]) (st := []) rfl (ct_Md_isDouble X x2 σ) (Nat.le_trans (Nat.le_of_ble_eq_true rfl) hF0) rfl rfl (Nat.le_of_ble_eq_true rfl) dk_Md_writes_24 (fun q4 => ?_)
        refine rn_if_ne (pc := 27) 41 dk_Md_writes_27 (by decide) (fun c5 => ?_) (fun c5 => ?_)
        · exact rn_sub (by rfl) (r_Md_writes_j41 X F hF0 _ ih x1 x2 q4.2)
        · refine rn_aload_n (pc := 30) 0 dk_Md_writes_30 rfl rfl rfl ?_
          refine rn_iload_n (pc := 31) 2 dk_Md_writes_31 rfl rfl ?_
          refine cl_Md_104 (pc := 32) (As := [.int x2]) (st := []) rfl (ct_Md_kinHome X x2 q4.2) (Nat.le_trans (Nat.le_of_ble_eq_true rfl) hF0) rfl rfl (Nat.le_of_ble_eq_true rfl) dk_Md_writes_32 (fun q10 => ?_)
          refine rn_if_ne (pc := 35) 41 dk_Md_writes_35 (by decide) (fun c11 => ?_) (fun c11 => ?_)
          · exact rn_sub (by rfl) (r_Md_writes_j41 X F hF0 _ ih x1 x2 q10.2)
          · refine rn_goto (pc := 38) 67 dk_Md_writes_38 (by decide) ?_
            refine rn_iinc (pc := 67) (1 : Int32) dk_Md_writes_67 cn_i_1 rfl rfl rfl ?_
            refine rn_goto (pc := 70) 4 dk_Md_writes_70 (by decide) ?_
            exact rn_sub (by rfl) (ih x1 (x2 + (1 : Int32)) q10.2)
def Md_writes (σ : nm_St) : Option (Int32 × nm_St) :=
  Md_writes_l4 (fun (e13 : Int32) (s12 : nm_St) =>
    some (e13, s12)) 400 (0 : Int32) (0 : Int32) σ
set_option maxRecDepth 100000 in
set_option maxHeartbeats 4000000 in
theorem ct_Md_writes (X : nm_X) (σ : nm_St) : Ct X mi_Md_writes 2 nm_wI [.ref 70] σ (Md_writes σ) := by
  refine Ct.of (by decide +kernel) rfl (fun F hF0 => ?_)
  unfold Md_writes
  refine rn_iconst (pc := 0) (0 : Int32) dk_Md_writes_0 cn_i_0 ?_
  refine rn_istore_n (pc := 1) 1 dk_Md_writes_1 rfl rfl rfl ?_
  refine rn_iconst (pc := 2) (0 : Int32) dk_Md_writes_2 cn_i_0 ?_
  refine rn_istore_n (pc := 3) 2 dk_Md_writes_3 rfl rfl rfl ?_
  refine rn_sub (by rfl) (r_Md_writes_l4 X F hF0 _ (fun e13 s12 => ?_) 400 (0 : Int32) (0 : Int32) σ)
  refine rn_iload_n (pc := 73) 1 dk_Md_writes_73 rfl rfl ?_
  exact rn_iret rfl dk_Md_writes_74
theorem dk_Md_write_0 : decode mi_Md_write.2.1 0 = .ok (.aload_n 0, 1) := by decide +kernel
theorem dk_Md_write_1 : decode mi_Md_write.2.1 1 = .ok (.invokevirtual 259, 3) := by decide +kernel
theorem dk_Md_write_4 : decode mi_Md_write.2.1 4 = .ok (.ireturn, 1) := by decide +kernel
def Md_write (σ : nm_St) : Option (Int32 × nm_St) :=
  ((Md_writes σ).bind fun q1 =>
  some (q1.1, q1.2))
set_option maxRecDepth 100000 in
set_option maxHeartbeats 4000000 in
theorem ct_Md_write (X : nm_X) (σ : nm_St) : Ct X mi_Md_write 3 nm_wI [.ref 70] σ (Md_write σ) := by
  refine Ct.of (by decide +kernel) rfl (fun F hF0 => ?_)
  unfold Md_write
  refine rn_aload_n (pc := 0) 0 dk_Md_write_0 rfl rfl rfl ?_
  refine cl_Md_259 (pc := 1) (As := []) (st := []) rfl (ct_Md_writes X σ) (Nat.le_trans (Nat.le_of_ble_eq_true rfl) hF0) rfl rfl (Nat.le_of_ble_eq_true rfl) dk_Md_write_1 (fun q1 => ?_)
  exact rn_iret rfl dk_Md_write_4
theorem dk_Md_month_0 : decode mi_Md_month.2.1 0 = .ok (.aload_n 0, 1) := by decide +kernel
theorem dk_Md_month_1 : decode mi_Md_month.2.1 1 = .ok (.invokevirtual 242, 3) := by decide +kernel
theorem dk_Md_month_4 : decode mi_Md_month.2.1 4 = .ok (.ireturn, 1) := by decide +kernel
def Md_month (σ : nm_St) : Option (Int32 × nm_St) :=
  ((Md_passes σ).bind fun q1 =>
  some (q1.1, q1.2))
set_option maxRecDepth 100000 in
set_option maxHeartbeats 4000000 in
theorem ct_Md_month (X : nm_X) (σ : nm_St) : Ct X mi_Md_month 3 nm_wI [.ref 70] σ (Md_month σ) := by
  refine Ct.of (by decide +kernel) rfl (fun F hF0 => ?_)
  unfold Md_month
  refine rn_aload_n (pc := 0) 0 dk_Md_month_0 rfl rfl rfl ?_
  refine cl_Md_242 (pc := 1) (As := []) (st := []) rfl (ct_Md_passes X σ) (Nat.le_trans (Nat.le_of_ble_eq_true rfl) hF0) rfl rfl (Nat.le_of_ble_eq_true rfl) dk_Md_month_1 (fun q1 => ?_)
  exact rn_iret rfl dk_Md_month_4
theorem dk_Md_years_0 : decode mi_Md_years.2.1 0 = .ok (.aload_n 0, 1) := by decide +kernel
theorem dk_Md_years_1 : decode mi_Md_years.2.1 1 = .ok (.getfield 90, 3) := by decide +kernel
theorem dk_Md_years_4 : decode mi_Md_years.2.1 4 = .ok (.ifCond .ne 10, 3) := by decide +kernel
theorem dk_Md_years_7 : decode mi_Md_years.2.1 7 = .ok (.aload_n 0, 1) := by decide +kernel
theorem dk_Md_years_8 : decode mi_Md_years.2.1 8 = .ok (.bipush (-5), 2) := by decide +kernel
theorem dk_Md_years_10 : decode mi_Md_years.2.1 10 = .ok (.invokevirtual 97, 3) := by decide +kernel
theorem dk_Md_years_13 : decode mi_Md_years.2.1 13 = .ok (.ireturn, 1) := by decide +kernel
theorem dk_Md_years_14 : decode mi_Md_years.2.1 14 = .ok (.iload_n 1, 1) := by decide +kernel
theorem dk_Md_years_15 : decode mi_Md_years.2.1 15 = .ok (.iconst 1, 1) := by decide +kernel
theorem dk_Md_years_16 : decode mi_Md_years.2.1 16 = .ok (.if_icmp .lt 10, 3) := by decide +kernel
theorem dk_Md_years_19 : decode mi_Md_years.2.1 19 = .ok (.iload_n 1, 1) := by decide +kernel
theorem dk_Md_years_20 : decode mi_Md_years.2.1 20 = .ok (.sipush 240, 3) := by decide +kernel
theorem dk_Md_years_23 : decode mi_Md_years.2.1 23 = .ok (.if_icmp .le 10, 3) := by decide +kernel
theorem dk_Md_years_26 : decode mi_Md_years.2.1 26 = .ok (.aload_n 0, 1) := by decide +kernel
theorem dk_Md_years_27 : decode mi_Md_years.2.1 27 = .ok (.bipush (-6), 2) := by decide +kernel
theorem dk_Md_years_29 : decode mi_Md_years.2.1 29 = .ok (.invokevirtual 97, 3) := by decide +kernel
theorem dk_Md_years_32 : decode mi_Md_years.2.1 32 = .ok (.ireturn, 1) := by decide +kernel
theorem dk_Md_years_33 : decode mi_Md_years.2.1 33 = .ok (.iconst 0, 1) := by decide +kernel
theorem dk_Md_years_34 : decode mi_Md_years.2.1 34 = .ok (.istore_n 2, 1) := by decide +kernel
theorem dk_Md_years_35 : decode mi_Md_years.2.1 35 = .ok (.iconst 0, 1) := by decide +kernel
theorem dk_Md_years_36 : decode mi_Md_years.2.1 36 = .ok (.istore_n 3, 1) := by decide +kernel
theorem dk_Md_years_37 : decode mi_Md_years.2.1 37 = .ok (.iload_n 3, 1) := by decide +kernel
theorem dk_Md_years_38 : decode mi_Md_years.2.1 38 = .ok (.iload_n 1, 1) := by decide +kernel
theorem dk_Md_years_39 : decode mi_Md_years.2.1 39 = .ok (.if_icmp .ge 97, 3) := by decide +kernel
theorem dk_Md_years_42 : decode mi_Md_years.2.1 42 = .ok (.aload_n 0, 1) := by decide +kernel
theorem dk_Md_years_43 : decode mi_Md_years.2.1 43 = .ok (.iconst 4, 1) := by decide +kernel
theorem dk_Md_years_44 : decode mi_Md_years.2.1 44 = .ok (.invokevirtual 256, 3) := by decide +kernel
theorem dk_Md_years_47 : decode mi_Md_years.2.1 47 = .ok (.istore 4, 2) := by decide +kernel
theorem dk_Md_years_49 : decode mi_Md_years.2.1 49 = .ok (.iload 4, 2) := by decide +kernel
theorem dk_Md_years_51 : decode mi_Md_years.2.1 51 = .ok (.iconst 1, 1) := by decide +kernel
theorem dk_Md_years_52 : decode mi_Md_years.2.1 52 = .ok (.if_icmp .ne 8, 3) := by decide +kernel
theorem dk_Md_years_55 : decode mi_Md_years.2.1 55 = .ok (.aload_n 0, 1) := by decide +kernel
theorem dk_Md_years_56 : decode mi_Md_years.2.1 56 = .ok (.invokevirtual 259, 3) := by decide +kernel
theorem dk_Md_years_59 : decode mi_Md_years.2.1 59 = .ok (.pop, 1) := by decide +kernel
theorem dk_Md_years_60 : decode mi_Md_years.2.1 60 = .ok (.iload 4, 2) := by decide +kernel
theorem dk_Md_years_62 : decode mi_Md_years.2.1 62 = .ok (.ifCond .eq 9, 3) := by decide +kernel
theorem dk_Md_years_65 : decode mi_Md_years.2.1 65 = .ok (.iload 4, 2) := by decide +kernel
theorem dk_Md_years_67 : decode mi_Md_years.2.1 67 = .ok (.iconst 2, 1) := by decide +kernel
theorem dk_Md_years_68 : decode mi_Md_years.2.1 68 = .ok (.if_icmp .ne 42, 3) := by decide +kernel
theorem dk_Md_years_71 : decode mi_Md_years.2.1 71 = .ok (.iload 4, 2) := by decide +kernel
theorem dk_Md_years_73 : decode mi_Md_years.2.1 73 = .ok (.ifCond .ne 8, 3) := by decide +kernel
theorem dk_Md_years_76 : decode mi_Md_years.2.1 76 = .ok (.bipush 100, 2) := by decide +kernel
theorem dk_Md_years_78 : decode mi_Md_years.2.1 78 = .ok (.goto 6, 3) := by decide +kernel
theorem dk_Md_years_81 : decode mi_Md_years.2.1 81 = .ok (.sipush 300, 3) := by decide +kernel
theorem dk_Md_years_84 : decode mi_Md_years.2.1 84 = .ok (.aload_n 0, 1) := by decide +kernel
theorem dk_Md_years_85 : decode mi_Md_years.2.1 85 = .ok (.aload_n 0, 1) := by decide +kernel
theorem dk_Md_years_86 : decode mi_Md_years.2.1 86 = .ok (.getfield 90, 3) := by decide +kernel
theorem dk_Md_years_89 : decode mi_Md_years.2.1 89 = .ok (.invokevirtual 256, 3) := by decide +kernel
theorem dk_Md_years_92 : decode mi_Md_years.2.1 92 = .ok (.iadd, 1) := by decide +kernel
theorem dk_Md_years_93 : decode mi_Md_years.2.1 93 = .ok (.istore 5, 2) := by decide +kernel
theorem dk_Md_years_95 : decode mi_Md_years.2.1 95 = .ok (.aload_n 0, 1) := by decide +kernel
theorem dk_Md_years_96 : decode mi_Md_years.2.1 96 = .ok (.iload 5, 2) := by decide +kernel
theorem dk_Md_years_98 : decode mi_Md_years.2.1 98 = .ok (.invokevirtual 245, 3) := by decide +kernel
theorem dk_Md_years_101 : decode mi_Md_years.2.1 101 = .ok (.ifCond .eq 9, 3) := by decide +kernel
theorem dk_Md_years_104 : decode mi_Md_years.2.1 104 = .ok (.aload_n 0, 1) := by decide +kernel
theorem dk_Md_years_105 : decode mi_Md_years.2.1 105 = .ok (.iload 5, 2) := by decide +kernel
theorem dk_Md_years_107 : decode mi_Md_years.2.1 107 = .ok (.invokevirtual 248, 3) := by decide +kernel
theorem dk_Md_years_110 : decode mi_Md_years.2.1 110 = .ok (.aload_n 0, 1) := by decide +kernel
theorem dk_Md_years_111 : decode mi_Md_years.2.1 111 = .ok (.invokevirtual 242, 3) := by decide +kernel
theorem dk_Md_years_114 : decode mi_Md_years.2.1 114 = .ok (.pop, 1) := by decide +kernel
theorem dk_Md_years_115 : decode mi_Md_years.2.1 115 = .ok (.aload_n 0, 1) := by decide +kernel
theorem dk_Md_years_116 : decode mi_Md_years.2.1 116 = .ok (.aload_n 0, 1) := by decide +kernel
theorem dk_Md_years_117 : decode mi_Md_years.2.1 117 = .ok (.iconst 1, 1) := by decide +kernel
theorem dk_Md_years_118 : decode mi_Md_years.2.1 118 = .ok (.invokevirtual 183, 3) := by decide +kernel
theorem dk_Md_years_121 : decode mi_Md_years.2.1 121 = .ok (.invokevirtual 186, 3) := by decide +kernel
theorem dk_Md_years_124 : decode mi_Md_years.2.1 124 = .ok (.ifCond .eq 6, 3) := by decide +kernel
theorem dk_Md_years_127 : decode mi_Md_years.2.1 127 = .ok (.iinc 2 1, 3) := by decide +kernel
theorem dk_Md_years_130 : decode mi_Md_years.2.1 130 = .ok (.iinc 3 1, 3) := by decide +kernel
theorem dk_Md_years_133 : decode mi_Md_years.2.1 133 = .ok (.goto (-96), 3) := by decide +kernel
theorem dk_Md_years_136 : decode mi_Md_years.2.1 136 = .ok (.iload_n 2, 1) := by decide +kernel
theorem dk_Md_years_137 : decode mi_Md_years.2.1 137 = .ok (.ireturn, 1) := by decide +kernel
def Md_years_j110 (k_37 : Int32 → Int32 → Int32 → nm_St → Option (Int32 × nm_St)) (x1 : Int32) (x2 : Int32) (x3 : Int32) (σ : nm_St) : Option (Int32 × nm_St) :=
  ((Md_passes σ).bind fun q13 =>
  ((Md_those (1 : Int32) q13.2).bind fun q14 =>
  ((Md_isMade q14.1 q14.2).bind fun q15 =>
  (if q15.1 = 0 then
    k_37 x1 x2 (x3 + (1 : Int32)) q15.2
  else
    k_37 x1 (x2 + (1 : Int32)) (x3 + (1 : Int32)) q15.2))))
set_option maxRecDepth 100000 in
set_option maxHeartbeats 4000000 in
theorem r_Md_years_j110 (X : nm_X) (F : nm_F) (hF0 : 4 ≤ nm_d F) (k_37 : Int32 → Int32 → Int32 → nm_St → Option (Int32 × nm_St)) (hk_37 : ∀ (x1 : Int32) (x2 : Int32) (x3 : Int32) (σ : nm_St), Rn X mi_Md_years F (nm_Qf X F nm_wI) [(0, .ref 70), (1, .int x1), (2, .int x2), (3, .int x3)] [] 37 σ (k_37 x1 x2 x3 σ)) (x1 : Int32) (x2 : Int32) (x3 : Int32) (σ : nm_St) : Rn X mi_Md_years F (nm_Qf X F nm_wI) [(0, .ref 70), (1, .int x1), (2, .int x2), (3, .int x3)] [] 110 σ (Md_years_j110 k_37 x1 x2 x3 σ) := by
  unfold Md_years_j110
  refine rn_aload_n (pc := 110) 0 dk_Md_years_110 rfl rfl rfl ?_
  refine cl_Md_242 (pc := 111) (As := []) (st := []) rfl (ct_Md_passes X σ) (Nat.le_trans (Nat.le_of_ble_eq_true rfl) hF0) rfl rfl (Nat.le_of_ble_eq_true rfl) dk_Md_years_111 (fun q13 => ?_)
  refine rn_pop (pc := 114) dk_Md_years_114 rfl ?_
  refine rn_aload_n (pc := 115) 0 dk_Md_years_115 rfl rfl rfl ?_
  refine rn_aload_n (pc := 116) 0 dk_Md_years_116 rfl rfl rfl ?_
  refine rn_iconst (pc := 117) (1 : Int32) dk_Md_years_117 cn_i_1 ?_
  refine cl_Md_183 (pc := 118) (As := [.int (1 : Int32)]) (st := [.ref 70]) rfl (ct_Md_those X (1 : Int32) q13.2) (Nat.le_trans (Nat.le_of_ble_eq_true rfl) hF0) rfl rfl (Nat.le_of_ble_eq_true rfl) dk_Md_years_118 (fun q14 => ?_)
  refine cl_Md_186 (pc := 121) (As := [.int q14.1]) (st := []) rfl (ct_Md_isMade X q14.1 q14.2) (Nat.le_trans (Nat.le_of_ble_eq_true rfl) hF0) rfl rfl (Nat.le_of_ble_eq_true rfl) dk_Md_years_121 (fun q15 => ?_)
  refine rn_if_eq (pc := 124) 130 dk_Md_years_124 (by decide) (fun c16 => ?_) (fun c16 => ?_)
  · refine rn_iinc (pc := 130) (1 : Int32) dk_Md_years_130 cn_i_1 rfl rfl rfl ?_
    refine rn_goto (pc := 133) 37 dk_Md_years_133 (by decide) ?_
    exact rn_sub (by rfl) (hk_37 x1 x2 (x3 + (1 : Int32)) q15.2)
  · refine rn_iinc (pc := 127) (1 : Int32) dk_Md_years_127 cn_i_1 rfl rfl rfl ?_
    refine rn_iinc (pc := 130) (1 : Int32) dk_Md_years_130 cn_i_1 rfl rfl rfl ?_
    refine rn_goto (pc := 133) 37 dk_Md_years_133 (by decide) ?_
    exact rn_sub (by rfl) (hk_37 x1 (x2 + (1 : Int32)) (x3 + (1 : Int32)) q15.2)
def Md_years_j84 (k_37 : Int32 → Int32 → Int32 → nm_St → Option (Int32 × nm_St)) (x1 : Int32) (x2 : Int32) (x3 : Int32) (y0 : Int32) (σ : nm_St) : Option (Int32 × nm_St) :=
  ((Md_draw (σ.1 70 0) σ).bind fun q10 =>
  ((Md_can (y0 + q10.1) q10.2).bind fun q11 =>
  (if q11.1 = 0 then
    Md_years_j110 k_37 x1 x2 x3 q11.2
  else
    ((Md_comes (y0 + q10.1) q11.2).bind fun q17 =>
    Md_years_j110 k_37 x1 x2 x3 q17.2))))
set_option maxRecDepth 100000 in
set_option maxHeartbeats 4000000 in
theorem r_Md_years_j84 (X : nm_X) (F : nm_F) (hF0 : 4 ≤ nm_d F) (k_37 : Int32 → Int32 → Int32 → nm_St → Option (Int32 × nm_St)) (hk_37 : ∀ (x1 : Int32) (x2 : Int32) (x3 : Int32) (σ : nm_St), Rn X mi_Md_years F (nm_Qf X F nm_wI) [(0, .ref 70), (1, .int x1), (2, .int x2), (3, .int x3)] [] 37 σ (k_37 x1 x2 x3 σ)) (x1 : Int32) (x2 : Int32) (x3 : Int32) (y0 : Int32) (σ : nm_St) : Rn X mi_Md_years F (nm_Qf X F nm_wI) [(0, .ref 70), (1, .int x1), (2, .int x2), (3, .int x3)] [.int y0] 84 σ (Md_years_j84 k_37 x1 x2 x3 y0 σ) := by
  unfold Md_years_j84
  refine rn_aload_n (pc := 84) 0 dk_Md_years_84 rfl rfl rfl ?_
  refine rn_aload_n (pc := 85) 0 dk_Md_years_85 rfl rfl rfl ?_
  refine gf_Md_90 (pc := 86) rfl dk_Md_years_86 ?_
  refine cl_Md_256 (pc := 89) (As := [.int (σ.1 70 0)]) (st := [.int y0]) rfl (ct_Md_draw X (σ.1 70 0) σ) (Nat.le_trans (Nat.le_of_ble_eq_true rfl) hF0) rfl rfl (Nat.le_of_ble_eq_true rfl) dk_Md_years_89 (fun q10 => ?_)
  refine rn_iadd (pc := 92) dk_Md_years_92 ?_
  refine rn_istore (pc := 93) dk_Md_years_93 rfl rfl ?_
  refine rn_aload_n (pc := 95) 0 dk_Md_years_95 rfl rfl rfl ?_
  refine rn_iload (pc := 96) dk_Md_years_96 rfl ?_
  refine cl_Md_245 (pc := 98) (As := [.int (y0 + q10.1)]) (st := []) rfl (ct_Md_can X (y0 + q10.1) q10.2) (Nat.le_trans (Nat.le_of_ble_eq_true rfl) hF0) rfl rfl (Nat.le_of_ble_eq_true rfl) dk_Md_years_98 (fun q11 => ?_)
  refine rn_if_eq (pc := 101) 110 dk_Md_years_101 (by decide) (fun c12 => ?_) (fun c12 => ?_)
  · exact rn_sub (by rfl) (r_Md_years_j110 X F hF0 _ hk_37 x1 x2 x3 q11.2)
  · refine rn_aload_n (pc := 104) 0 dk_Md_years_104 rfl rfl rfl ?_
    refine rn_iload (pc := 105) dk_Md_years_105 rfl ?_
    refine cl_Md_248 (pc := 107) (As := [.int (y0 + q10.1)]) (st := []) rfl (ct_Md_comes X (y0 + q10.1) q11.2) (Nat.le_trans (Nat.le_of_ble_eq_true rfl) hF0) rfl rfl (Nat.le_of_ble_eq_true rfl) dk_Md_years_107 (fun q17 => ?_)
    exact rn_sub (by rfl) (r_Md_years_j110 X F hF0 _ hk_37 x1 x2 x3 q17.2)
def Md_years_j71 (k_37 : Int32 → Int32 → Int32 → nm_St → Option (Int32 × nm_St)) (x1 : Int32) (x2 : Int32) (x3 : Int32) (x4 : Int32) (σ : nm_St) : Option (Int32 × nm_St) :=
  (if x4 = 0 then
    Md_years_j84 k_37 x1 x2 x3 (100 : Int32) σ
  else
    Md_years_j84 k_37 x1 x2 x3 (300 : Int32) σ)
set_option maxRecDepth 100000 in
set_option maxHeartbeats 4000000 in
theorem r_Md_years_j71 (X : nm_X) (F : nm_F) (hF0 : 4 ≤ nm_d F) (k_37 : Int32 → Int32 → Int32 → nm_St → Option (Int32 × nm_St)) (hk_37 : ∀ (x1 : Int32) (x2 : Int32) (x3 : Int32) (σ : nm_St), Rn X mi_Md_years F (nm_Qf X F nm_wI) [(0, .ref 70), (1, .int x1), (2, .int x2), (3, .int x3)] [] 37 σ (k_37 x1 x2 x3 σ)) (x1 : Int32) (x2 : Int32) (x3 : Int32) (x4 : Int32) (σ : nm_St) : Rn X mi_Md_years F (nm_Qf X F nm_wI) [(0, .ref 70), (1, .int x1), (2, .int x2), (3, .int x3), (4, .int x4)] [] 71 σ (Md_years_j71 k_37 x1 x2 x3 x4 σ) := by
  unfold Md_years_j71
  refine rn_iload (pc := 71) dk_Md_years_71 rfl ?_
  refine rn_if_ne (pc := 73) 81 dk_Md_years_73 (by decide) (fun c9 => ?_) (fun c9 => ?_)
  · refine rn_sipush (pc := 81) (300 : Int32) dk_Md_years_81 cn_s_300 ?_
    exact rn_sub (by rfl) (r_Md_years_j84 X F hF0 _ hk_37 x1 x2 x3 (300 : Int32) σ)
  · refine rn_bipush (pc := 76) (100 : Int32) dk_Md_years_76 cn_b_100 ?_
    refine rn_goto (pc := 78) 84 dk_Md_years_78 (by decide) ?_
    exact rn_sub (by rfl) (r_Md_years_j84 X F hF0 _ hk_37 x1 x2 x3 (100 : Int32) σ)
def Md_years_j60 (k_37 : Int32 → Int32 → Int32 → nm_St → Option (Int32 × nm_St)) (x1 : Int32) (x2 : Int32) (x3 : Int32) (x4 : Int32) (σ : nm_St) : Option (Int32 × nm_St) :=
  (if x4 = 0 then
    Md_years_j71 k_37 x1 x2 x3 x4 σ
  else
    (if x4 = (2 : Int32) then
      Md_years_j71 k_37 x1 x2 x3 x4 σ
    else
      Md_years_j110 k_37 x1 x2 x3 σ))
set_option maxRecDepth 100000 in
set_option maxHeartbeats 4000000 in
theorem r_Md_years_j60 (X : nm_X) (F : nm_F) (hF0 : 4 ≤ nm_d F) (k_37 : Int32 → Int32 → Int32 → nm_St → Option (Int32 × nm_St)) (hk_37 : ∀ (x1 : Int32) (x2 : Int32) (x3 : Int32) (σ : nm_St), Rn X mi_Md_years F (nm_Qf X F nm_wI) [(0, .ref 70), (1, .int x1), (2, .int x2), (3, .int x3)] [] 37 σ (k_37 x1 x2 x3 σ)) (x1 : Int32) (x2 : Int32) (x3 : Int32) (x4 : Int32) (σ : nm_St) : Rn X mi_Md_years F (nm_Qf X F nm_wI) [(0, .ref 70), (1, .int x1), (2, .int x2), (3, .int x3), (4, .int x4)] [] 60 σ (Md_years_j60 k_37 x1 x2 x3 x4 σ) := by
  unfold Md_years_j60
  refine rn_iload (pc := 60) dk_Md_years_60 rfl ?_
  refine rn_if_eq (pc := 62) 71 dk_Md_years_62 (by decide) (fun c8 => ?_) (fun c8 => ?_)
  · exact rn_sub (by rfl) (r_Md_years_j71 X F hF0 _ hk_37 x1 x2 x3 x4 σ)
  · refine rn_iload (pc := 65) dk_Md_years_65 rfl ?_
    refine rn_iconst (pc := 67) (2 : Int32) dk_Md_years_67 cn_i_2 ?_
    refine rn_icmp_ne (pc := 68) 110 dk_Md_years_68 (by decide) (fun c18 => ?_) (fun c18 => ?_)
    · exact rn_sub (by rfl) (r_Md_years_j110 X F hF0 _ hk_37 x1 x2 x3 σ)
    · exact rn_sub (by rfl) (r_Md_years_j71 X F hF0 _ hk_37 x1 x2 x3 x4 σ)
def Md_years_l37 (k_136 : Int32 → nm_St → Option (Int32 × nm_St)) : Nat → Int32 → Int32 → Int32 → nm_St → Option (Int32 × nm_St)
  | 0, _, _, _, _ => none
  | n + 1, x1, x2, x3, σ =>
    (if x1 ≤ x3 then
      k_136 x2 σ
    else
      ((Md_draw (4 : Int32) σ).bind fun q6 =>
      (if q6.1 = (1 : Int32) then
        ((Md_writes q6.2).bind fun q19 =>
        Md_years_j60 (Md_years_l37 k_136 n) x1 x2 x3 q6.1 q19.2)
      else
        Md_years_j60 (Md_years_l37 k_136 n) x1 x2 x3 q6.1 q6.2)))
set_option maxRecDepth 100000 in
set_option maxHeartbeats 4000000 in
theorem r_Md_years_l37 (X : nm_X) (F : nm_F) (hF0 : 4 ≤ nm_d F) (k_136 : Int32 → nm_St → Option (Int32 × nm_St)) (hk_136 : ∀ (x2 : Int32) (σ : nm_St), Rn X mi_Md_years F (nm_Qf X F nm_wI) [(2, .int x2)] [] 136 σ (k_136 x2 σ)) : ∀ (n : Nat) (x1 : Int32) (x2 : Int32) (x3 : Int32) (σ : nm_St), Rn X mi_Md_years F (nm_Qf X F nm_wI) [(0, .ref 70), (1, .int x1), (2, .int x2), (3, .int x3)] [] 37 σ (Md_years_l37 k_136 n x1 x2 x3 σ) := by
  intro n
  induction n with
  | zero =>
    intro x1 x2 x3 σ
    exact rn_none
  | succ n ih =>
    intro x1 x2 x3 σ
    unfold Md_years_l37
    refine rn_iload_n (pc := 37) 3 dk_Md_years_37 rfl rfl ?_
    refine rn_iload_n (pc := 38) 1 dk_Md_years_38 rfl rfl ?_
    refine rn_icmp_ge (pc := 39) 136 dk_Md_years_39 (by decide) (fun c5 => ?_) (fun c5 => ?_)
    · exact rn_sub (by rfl) (hk_136 x2 σ)
    · refine rn_aload_n (pc := 42) 0 dk_Md_years_42 rfl rfl rfl ?_
      refine rn_iconst (pc := 43) (4 : Int32) dk_Md_years_43 cn_i_4 ?_
      refine cl_Md_256 (pc := 44) (As := [.int (4 : Int32)]) (st := []) rfl (ct_Md_draw X (4 : Int32) σ) (Nat.le_trans (Nat.le_of_ble_eq_true rfl) hF0) rfl rfl (Nat.le_of_ble_eq_true rfl) dk_Md_years_44 (fun q6 => ?_)
      refine rn_istore (pc := 47) dk_Md_years_47 rfl rfl ?_
      refine rn_iload (pc := 49) dk_Md_years_49 rfl ?_
      refine rn_iconst (pc := 51) (1 : Int32) dk_Md_years_51 cn_i_1 ?_
      refine rn_icmp_ne (pc := 52) 60 dk_Md_years_52 (by decide) (fun c7 => ?_) (fun c7 => ?_)
      · exact rn_sub (by rfl) (r_Md_years_j60 X F hF0 _ ih x1 x2 x3 q6.1 q6.2)
      · refine rn_aload_n (pc := 55) 0 dk_Md_years_55 rfl rfl rfl ?_
        refine cl_Md_259 (pc := 56) (As := []) (st := []) rfl (ct_Md_writes X q6.2) (Nat.le_trans (Nat.le_of_ble_eq_true rfl) hF0) rfl rfl (Nat.le_of_ble_eq_true rfl) dk_Md_years_56 (fun q19 => ?_)
        refine rn_pop (pc := 59) dk_Md_years_59 rfl ?_
        exact rn_sub (by rfl) (r_Md_years_j60 X F hF0 _ ih x1 x2 x3 q6.1 q19.2)
def Md_years (p1 : Int32) (σ : nm_St) : Option (Int32 × nm_St) :=
  (if (σ.1 70 0) = 0 then
    ((Md_no (-5 : Int32) σ).bind fun q23 =>
    some (q23.1, q23.2))
  else
    (if p1 < (1 : Int32) then
      ((Md_no (-6 : Int32) σ).bind fun q3 =>
      some (q3.1, q3.2))
    else
      (if p1 ≤ (240 : Int32) then
        Md_years_l37 (fun (e21 : Int32) (s20 : nm_St) =>
          some (e21, s20)) 400 p1 (0 : Int32) (0 : Int32) σ
      else
        ((Md_no (-6 : Int32) σ).bind fun q22 =>
        some (q22.1, q22.2)))))
set_option maxRecDepth 100000 in
set_option maxHeartbeats 4000000 in
theorem ct_Md_years (X : nm_X) (p1 : Int32) (σ : nm_St) : Ct X mi_Md_years 4 nm_wI [.ref 70, .int p1] σ (Md_years p1 σ) := by
  refine Ct.of (by decide +kernel) rfl (fun F hF0 => ?_)
  unfold Md_years
  refine rn_aload_n (pc := 0) 0 dk_Md_years_0 rfl rfl rfl ?_
  refine gf_Md_90 (pc := 1) rfl dk_Md_years_1 ?_
  refine rn_if_ne (pc := 4) 14 dk_Md_years_4 (by decide) (fun c1 => ?_) (fun c1 => ?_)
  · refine rn_iload_n (pc := 14) 1 dk_Md_years_14 rfl rfl ?_
    refine rn_iconst (pc := 15) (1 : Int32) dk_Md_years_15 cn_i_1 ?_
    refine rn_icmp_lt (pc := 16) 26 dk_Md_years_16 (by decide) (fun c2 => ?_) (fun c2 => ?_)
    · refine rn_aload_n (pc := 26) 0 dk_Md_years_26 rfl rfl rfl ?_
      refine rn_bipush (pc := 27) (-6 : Int32) dk_Md_years_27 cn_b_m6 ?_
      refine cl_Md_97 (pc := 29) (As := [.int (-6 : Int32)]) (st := []) rfl (ct_Md_no X (-6 : Int32) σ) (Nat.le_trans (Nat.le_of_ble_eq_true rfl) hF0) rfl rfl (Nat.le_of_ble_eq_true rfl) dk_Md_years_29 (fun q3 => ?_)
      exact rn_iret rfl dk_Md_years_32
    · refine rn_iload_n (pc := 19) 1 dk_Md_years_19 rfl rfl ?_
      refine rn_sipush (pc := 20) (240 : Int32) dk_Md_years_20 cn_s_240 ?_
      refine rn_icmp_le (pc := 23) 33 dk_Md_years_23 (by decide) (fun c4 => ?_) (fun c4 => ?_)
      · refine rn_iconst (pc := 33) (0 : Int32) dk_Md_years_33 cn_i_0 ?_
        refine rn_istore_n (pc := 34) 2 dk_Md_years_34 rfl rfl rfl ?_
        refine rn_iconst (pc := 35) (0 : Int32) dk_Md_years_35 cn_i_0 ?_
        refine rn_istore_n (pc := 36) 3 dk_Md_years_36 rfl rfl rfl ?_
        refine rn_sub (by rfl) (r_Md_years_l37 X F hF0 _ (fun e21 s20 => ?_) 400 p1 (0 : Int32) (0 : Int32) σ)
        refine rn_iload_n (pc := 136) 2 dk_Md_years_136 rfl rfl ?_
        exact rn_iret rfl dk_Md_years_137
      · refine rn_aload_n (pc := 26) 0 dk_Md_years_26 rfl rfl rfl ?_
        refine rn_bipush (pc := 27) (-6 : Int32) dk_Md_years_27 cn_b_m6 ?_
        refine cl_Md_97 (pc := 29) (As := [.int (-6 : Int32)]) (st := []) rfl (ct_Md_no X (-6 : Int32) σ) (Nat.le_trans (Nat.le_of_ble_eq_true rfl) hF0) rfl rfl (Nat.le_of_ble_eq_true rfl) dk_Md_years_29 (fun q22 => ?_)
        exact rn_iret rfl dk_Md_years_32
  · refine rn_aload_n (pc := 7) 0 dk_Md_years_7 rfl rfl rfl ?_
    refine rn_bipush (pc := 8) (-5 : Int32) dk_Md_years_8 cn_b_m5 ?_
    refine cl_Md_97 (pc := 10) (As := [.int (-5 : Int32)]) (st := []) rfl (ct_Md_no X (-5 : Int32) σ) (Nat.le_trans (Nat.le_of_ble_eq_true rfl) hF0) rfl rfl (Nat.le_of_ble_eq_true rfl) dk_Md_years_10 (fun q23 => ?_)
    exact rn_iret rfl dk_Md_years_13
theorem dk_Md_seed_0 : decode mi_Md_seed.2.1 0 = .ok (.aload_n 0, 1) := by decide +kernel
theorem dk_Md_seed_1 : decode mi_Md_seed.2.1 1 = .ok (.getfield 16, 3) := by decide +kernel
theorem dk_Md_seed_4 : decode mi_Md_seed.2.1 4 = .ok (.istore_n 2, 1) := by decide +kernel
theorem dk_Md_seed_5 : decode mi_Md_seed.2.1 5 = .ok (.aload_n 0, 1) := by decide +kernel
theorem dk_Md_seed_6 : decode mi_Md_seed.2.1 6 = .ok (.iload_n 1, 1) := by decide +kernel
theorem dk_Md_seed_7 : decode mi_Md_seed.2.1 7 = .ok (.putfield 16, 3) := by decide +kernel
theorem dk_Md_seed_10 : decode mi_Md_seed.2.1 10 = .ok (.iload_n 2, 1) := by decide +kernel
theorem dk_Md_seed_11 : decode mi_Md_seed.2.1 11 = .ok (.ireturn, 1) := by decide +kernel
def Md_seed (p1 : Int32) (σ : nm_St) : Option (Int32 × nm_St) :=
  (nm_let (nm_pI σ 70 5 p1) fun s1 =>
  some ((σ.1 70 5), s1))
set_option maxRecDepth 100000 in
set_option maxHeartbeats 4000000 in
theorem ct_Md_seed (X : nm_X) (p1 : Int32) (σ : nm_St) : Ct X mi_Md_seed 0 nm_wI [.ref 70, .int p1] σ (Md_seed p1 σ) := by
  refine Ct.of (by decide +kernel) rfl (fun F hF0 => ?_)
  unfold Md_seed
  refine rn_aload_n (pc := 0) 0 dk_Md_seed_0 rfl rfl rfl ?_
  refine gf_Md_16 (pc := 1) rfl dk_Md_seed_1 ?_
  refine rn_istore_n (pc := 4) 2 dk_Md_seed_4 rfl rfl rfl ?_
  refine rn_aload_n (pc := 5) 0 dk_Md_seed_5 rfl rfl rfl ?_
  refine rn_iload_n (pc := 6) 1 dk_Md_seed_6 rfl rfl ?_
  refine pf_Md_16 (pc := 7) rfl dk_Md_seed_7 ?_
  refine rn_lets (fun s1 => ?_)
  refine rn_iload_n (pc := 10) 2 dk_Md_seed_10 rfl rfl ?_
  exact rn_iret rfl dk_Md_seed_11
theorem dk_Md_body_0 : decode mi_Md_body.2.1 0 = .ok (.aload_n 0, 1) := by decide +kernel
theorem dk_Md_body_1 : decode mi_Md_body.2.1 1 = .ok (.getfield 262, 3) := by decide +kernel
theorem dk_Md_body_4 : decode mi_Md_body.2.1 4 = .ok (.bipush 20, 2) := by decide +kernel
theorem dk_Md_body_6 : decode mi_Md_body.2.1 6 = .ok (.if_icmp .ge 13, 3) := by decide +kernel
theorem dk_Md_body_9 : decode mi_Md_body.2.1 9 = .ok (.aload_n 0, 1) := by decide +kernel
theorem dk_Md_body_10 : decode mi_Md_body.2.1 10 = .ok (.getfield 87, 3) := by decide +kernel
theorem dk_Md_body_13 : decode mi_Md_body.2.1 13 = .ok (.aload_n 0, 1) := by decide +kernel
theorem dk_Md_body_14 : decode mi_Md_body.2.1 14 = .ok (.getfield 262, 3) := by decide +kernel
theorem dk_Md_body_17 : decode mi_Md_body.2.1 17 = .ok (.iload_n 1, 1) := by decide +kernel
theorem dk_Md_body_18 : decode mi_Md_body.2.1 18 = .ok (.iastore, 1) := by decide +kernel
theorem dk_Md_body_19 : decode mi_Md_body.2.1 19 = .ok (.aload_n 0, 1) := by decide +kernel
theorem dk_Md_body_20 : decode mi_Md_body.2.1 20 = .ok (.dup, 1) := by decide +kernel
theorem dk_Md_body_21 : decode mi_Md_body.2.1 21 = .ok (.getfield 262, 3) := by decide +kernel
theorem dk_Md_body_24 : decode mi_Md_body.2.1 24 = .ok (.iconst 1, 1) := by decide +kernel
theorem dk_Md_body_25 : decode mi_Md_body.2.1 25 = .ok (.iadd, 1) := by decide +kernel
theorem dk_Md_body_26 : decode mi_Md_body.2.1 26 = .ok (.putfield 262, 3) := by decide +kernel
theorem dk_Md_body_29 : decode mi_Md_body.2.1 29 = .ok (.return_, 1) := by decide +kernel
def Md_body_j19 (σ : nm_St) : Option (Unit × nm_St) :=
  (nm_let (nm_pI σ 70 35 ((σ.1 70 35) + (1 : Int32))) fun s2 =>
  some ((), s2))
set_option maxRecDepth 100000 in
set_option maxHeartbeats 4000000 in
theorem r_Md_body_j19 (X : nm_X) (F : nm_F) (hF0 : 0 ≤ nm_d F) (σ : nm_St) : Rn X mi_Md_body F (nm_Qf X F nm_wV) [(0, .ref 70)] [] 19 σ (Md_body_j19 σ) := by
  unfold Md_body_j19
  refine rn_aload_n (pc := 19) 0 dk_Md_body_19 rfl rfl rfl ?_
  refine rn_dup (pc := 20) dk_Md_body_20 rfl ?_
  refine gf_Md_262 (pc := 21) rfl dk_Md_body_21 ?_
  refine rn_iconst (pc := 24) (1 : Int32) dk_Md_body_24 cn_i_1 ?_
  refine rn_iadd (pc := 25) dk_Md_body_25 ?_
  refine pf_Md_262 (pc := 26) rfl dk_Md_body_26 ?_
  refine rn_lets (fun s2 => ?_)
  exact rn_vret rfl dk_Md_body_29
def Md_body (p1 : Int32) (σ : nm_St) : Option (Unit × nm_St) :=
  (if (20 : Int32) ≤ (σ.1 70 35) then
    Md_body_j19 σ
  else
    (nm_g (nm_in (σ.1 70 35) 20) (
    (nm_let (nm_pI σ 92 (σ.1 70 35).toNatClampNeg p1) fun s4 =>
    Md_body_j19 s4))))
set_option maxRecDepth 100000 in
set_option maxHeartbeats 4000000 in
theorem ct_Md_body (X : nm_X) (p1 : Int32) (σ : nm_St) : Ct X mi_Md_body 0 nm_wV [.ref 70, .int p1] σ (Md_body p1 σ) := by
  refine Ct.of (by decide +kernel) rfl (fun F hF0 => ?_)
  unfold Md_body
  refine rn_aload_n (pc := 0) 0 dk_Md_body_0 rfl rfl rfl ?_
  refine gf_Md_262 (pc := 1) rfl dk_Md_body_1 ?_
  refine rn_bipush (pc := 4) (20 : Int32) dk_Md_body_4 cn_b_20 ?_
  refine rn_icmp_ge (pc := 6) 19 dk_Md_body_6 (by decide) (fun c1 => ?_) (fun c1 => ?_)
  · exact rn_sub (by rfl) (r_Md_body_j19 X F hF0 σ)
  · refine rn_aload_n (pc := 9) 0 dk_Md_body_9 rfl rfl rfl ?_
    refine gf_Md_87 (pc := 10) rfl dk_Md_body_10 ?_
    refine rn_aload_n (pc := 13) 0 dk_Md_body_13 rfl rfl rfl ?_
    refine gf_Md_262 (pc := 14) rfl dk_Md_body_14 ?_
    refine rn_iload_n (pc := 17) 1 dk_Md_body_17 rfl rfl ?_
    refine rn_iastore (pc := 18) rfl dk_Md_body_18 (fun g3 => ?_)
    refine rn_lets (fun s4 => ?_)
    exact rn_sub (by rfl) (r_Md_body_j19 X F hF0 s4)
theorem dk_Md_blowing_0 : decode mi_Md_blowing.2.1 0 = .ok (.aload_n 0, 1) := by decide +kernel
theorem dk_Md_blowing_1 : decode mi_Md_blowing.2.1 1 = .ok (.getfield 26, 3) := by decide +kernel
theorem dk_Md_blowing_4 : decode mi_Md_blowing.2.1 4 = .ok (.iload_n 1, 1) := by decide +kernel
theorem dk_Md_blowing_5 : decode mi_Md_blowing.2.1 5 = .ok (.iaload, 1) := by decide +kernel
theorem dk_Md_blowing_6 : decode mi_Md_blowing.2.1 6 = .ok (.istore_n 3, 1) := by decide +kernel
theorem dk_Md_blowing_7 : decode mi_Md_blowing.2.1 7 = .ok (.iload_n 3, 1) := by decide +kernel
theorem dk_Md_blowing_8 : decode mi_Md_blowing.2.1 8 = .ok (.bipush 6, 2) := by decide +kernel
theorem dk_Md_blowing_10 : decode mi_Md_blowing.2.1 10 = .ok (.if_icmp .ne 9, 3) := by decide +kernel
theorem dk_Md_blowing_13 : decode mi_Md_blowing.2.1 13 = .ok (.aload_n 0, 1) := by decide +kernel
theorem dk_Md_blowing_14 : decode mi_Md_blowing.2.1 14 = .ok (.bipush 70, 2) := by decide +kernel
theorem dk_Md_blowing_16 : decode mi_Md_blowing.2.1 16 = .ok (.invokevirtual 265, 3) := by decide +kernel
theorem dk_Md_blowing_19 : decode mi_Md_blowing.2.1 19 = .ok (.iload_n 3, 1) := by decide +kernel
theorem dk_Md_blowing_20 : decode mi_Md_blowing.2.1 20 = .ok (.iconst 4, 1) := by decide +kernel
theorem dk_Md_blowing_21 : decode mi_Md_blowing.2.1 21 = .ok (.if_icmp .eq 9, 3) := by decide +kernel
theorem dk_Md_blowing_24 : decode mi_Md_blowing.2.1 24 = .ok (.iload_n 3, 1) := by decide +kernel
theorem dk_Md_blowing_25 : decode mi_Md_blowing.2.1 25 = .ok (.bipush 6, 2) := by decide +kernel
theorem dk_Md_blowing_27 : decode mi_Md_blowing.2.1 27 = .ok (.if_icmp .ne 9, 3) := by decide +kernel
theorem dk_Md_blowing_30 : decode mi_Md_blowing.2.1 30 = .ok (.aload_n 0, 1) := by decide +kernel
theorem dk_Md_blowing_31 : decode mi_Md_blowing.2.1 31 = .ok (.bipush 51, 2) := by decide +kernel
theorem dk_Md_blowing_33 : decode mi_Md_blowing.2.1 33 = .ok (.invokevirtual 265, 3) := by decide +kernel
theorem dk_Md_blowing_36 : decode mi_Md_blowing.2.1 36 = .ok (.iload_n 3, 1) := by decide +kernel
theorem dk_Md_blowing_37 : decode mi_Md_blowing.2.1 37 = .ok (.iconst 1, 1) := by decide +kernel
theorem dk_Md_blowing_38 : decode mi_Md_blowing.2.1 38 = .ok (.if_icmp .eq 8, 3) := by decide +kernel
theorem dk_Md_blowing_41 : decode mi_Md_blowing.2.1 41 = .ok (.iload_n 3, 1) := by decide +kernel
theorem dk_Md_blowing_42 : decode mi_Md_blowing.2.1 42 = .ok (.iconst 3, 1) := by decide +kernel
theorem dk_Md_blowing_43 : decode mi_Md_blowing.2.1 43 = .ok (.if_icmp .ne 9, 3) := by decide +kernel
theorem dk_Md_blowing_46 : decode mi_Md_blowing.2.1 46 = .ok (.aload_n 0, 1) := by decide +kernel
theorem dk_Md_blowing_47 : decode mi_Md_blowing.2.1 47 = .ok (.bipush 20, 2) := by decide +kernel
theorem dk_Md_blowing_49 : decode mi_Md_blowing.2.1 49 = .ok (.invokevirtual 265, 3) := by decide +kernel
theorem dk_Md_blowing_52 : decode mi_Md_blowing.2.1 52 = .ok (.aload_n 0, 1) := by decide +kernel
theorem dk_Md_blowing_53 : decode mi_Md_blowing.2.1 53 = .ok (.bipush 10, 2) := by decide +kernel
theorem dk_Md_blowing_55 : decode mi_Md_blowing.2.1 55 = .ok (.invokevirtual 265, 3) := by decide +kernel
theorem dk_Md_blowing_58 : decode mi_Md_blowing.2.1 58 = .ok (.iload_n 2, 1) := by decide +kernel
theorem dk_Md_blowing_59 : decode mi_Md_blowing.2.1 59 = .ok (.iload_n 1, 1) := by decide +kernel
theorem dk_Md_blowing_60 : decode mi_Md_blowing.2.1 60 = .ok (.iadd, 1) := by decide +kernel
theorem dk_Md_blowing_61 : decode mi_Md_blowing.2.1 61 = .ok (.istore 4, 2) := by decide +kernel
theorem dk_Md_blowing_63 : decode mi_Md_blowing.2.1 63 = .ok (.iload_n 3, 1) := by decide +kernel
theorem dk_Md_blowing_64 : decode mi_Md_blowing.2.1 64 = .ok (.iconst 1, 1) := by decide +kernel
theorem dk_Md_blowing_65 : decode mi_Md_blowing.2.1 65 = .ok (.if_icmp .eq 8, 3) := by decide +kernel
theorem dk_Md_blowing_68 : decode mi_Md_blowing.2.1 68 = .ok (.iload_n 3, 1) := by decide +kernel
theorem dk_Md_blowing_69 : decode mi_Md_blowing.2.1 69 = .ok (.iconst 3, 1) := by decide +kernel
theorem dk_Md_blowing_70 : decode mi_Md_blowing.2.1 70 = .ok (.if_icmp .ne 14, 3) := by decide +kernel
theorem dk_Md_blowing_73 : decode mi_Md_blowing.2.1 73 = .ok (.iload 4, 2) := by decide +kernel
theorem dk_Md_blowing_75 : decode mi_Md_blowing.2.1 75 = .ok (.aload_n 0, 1) := by decide +kernel
theorem dk_Md_blowing_76 : decode mi_Md_blowing.2.1 76 = .ok (.getfield 29, 3) := by decide +kernel
theorem dk_Md_blowing_79 : decode mi_Md_blowing.2.1 79 = .ok (.iload_n 1, 1) := by decide +kernel
theorem dk_Md_blowing_80 : decode mi_Md_blowing.2.1 80 = .ok (.iaload, 1) := by decide +kernel
theorem dk_Md_blowing_81 : decode mi_Md_blowing.2.1 81 = .ok (.iadd, 1) := by decide +kernel
theorem dk_Md_blowing_82 : decode mi_Md_blowing.2.1 82 = .ok (.istore 4, 2) := by decide +kernel
theorem dk_Md_blowing_84 : decode mi_Md_blowing.2.1 84 = .ok (.iload_n 3, 1) := by decide +kernel
theorem dk_Md_blowing_85 : decode mi_Md_blowing.2.1 85 = .ok (.iconst 4, 1) := by decide +kernel
theorem dk_Md_blowing_86 : decode mi_Md_blowing.2.1 86 = .ok (.if_icmp .eq 9, 3) := by decide +kernel
theorem dk_Md_blowing_89 : decode mi_Md_blowing.2.1 89 = .ok (.iload_n 3, 1) := by decide +kernel
theorem dk_Md_blowing_90 : decode mi_Md_blowing.2.1 90 = .ok (.bipush 6, 2) := by decide +kernel
theorem dk_Md_blowing_92 : decode mi_Md_blowing.2.1 92 = .ok (.if_icmp .ne 9, 3) := by decide +kernel
theorem dk_Md_blowing_95 : decode mi_Md_blowing.2.1 95 = .ok (.iload 4, 2) := by decide +kernel
theorem dk_Md_blowing_97 : decode mi_Md_blowing.2.1 97 = .ok (.iload_n 1, 1) := by decide +kernel
theorem dk_Md_blowing_98 : decode mi_Md_blowing.2.1 98 = .ok (.isub, 1) := by decide +kernel
theorem dk_Md_blowing_99 : decode mi_Md_blowing.2.1 99 = .ok (.istore 4, 2) := by decide +kernel
theorem dk_Md_blowing_101 : decode mi_Md_blowing.2.1 101 = .ok (.iload_n 3, 1) := by decide +kernel
theorem dk_Md_blowing_102 : decode mi_Md_blowing.2.1 102 = .ok (.bipush 6, 2) := by decide +kernel
theorem dk_Md_blowing_104 : decode mi_Md_blowing.2.1 104 = .ok (.if_icmp .ne 10, 3) := by decide +kernel
theorem dk_Md_blowing_107 : decode mi_Md_blowing.2.1 107 = .ok (.iload 4, 2) := by decide +kernel
theorem dk_Md_blowing_109 : decode mi_Md_blowing.2.1 109 = .ok (.iconst 2, 1) := by decide +kernel
theorem dk_Md_blowing_110 : decode mi_Md_blowing.2.1 110 = .ok (.imul, 1) := by decide +kernel
theorem dk_Md_blowing_111 : decode mi_Md_blowing.2.1 111 = .ok (.goto 5, 3) := by decide +kernel
theorem dk_Md_blowing_114 : decode mi_Md_blowing.2.1 114 = .ok (.iload 4, 2) := by decide +kernel
theorem dk_Md_blowing_116 : decode mi_Md_blowing.2.1 116 = .ok (.ireturn, 1) := by decide +kernel
def Md_blowing_j101 (x3 : Int32) (x4 : Int32) (σ : nm_St) : Option (Int32 × nm_St) :=
  (if x3 = (6 : Int32) then
    some ((x4 * (2 : Int32)), σ)
  else
    some (x4, σ))
set_option maxRecDepth 100000 in
set_option maxHeartbeats 4000000 in
theorem r_Md_blowing_j101 (X : nm_X) (F : nm_F) (hF0 : 1 ≤ nm_d F) (x3 : Int32) (x4 : Int32) (σ : nm_St) : Rn X mi_Md_blowing F (nm_Qf X F nm_wI) [(3, .int x3), (4, .int x4)] [] 101 σ (Md_blowing_j101 x3 x4 σ) := by
  unfold Md_blowing_j101
  refine rn_iload_n (pc := 101) 3 dk_Md_blowing_101 rfl rfl ?_
  refine rn_bipush (pc := 102) (6 : Int32) dk_Md_blowing_102 cn_b_6 ?_
  refine rn_icmp_ne (pc := 104) 114 dk_Md_blowing_104 (by decide) (fun c13 => ?_) (fun c13 => ?_)
  · refine rn_iload (pc := 114) dk_Md_blowing_114 rfl ?_
    exact rn_iret rfl dk_Md_blowing_116
  · refine rn_iload (pc := 107) dk_Md_blowing_107 rfl ?_
    refine rn_iconst (pc := 109) (2 : Int32) dk_Md_blowing_109 cn_i_2 ?_
    refine rn_imul (pc := 110) dk_Md_blowing_110 ?_
    refine rn_goto (pc := 111) 116 dk_Md_blowing_111 (by decide) ?_
    exact rn_iret rfl dk_Md_blowing_116
def Md_blowing_j95 (x1 : Int32) (x3 : Int32) (x4 : Int32) (σ : nm_St) : Option (Int32 × nm_St) :=
  Md_blowing_j101 x3 (x4 - x1) σ
set_option maxRecDepth 100000 in
set_option maxHeartbeats 4000000 in
theorem r_Md_blowing_j95 (X : nm_X) (F : nm_F) (hF0 : 1 ≤ nm_d F) (x1 : Int32) (x3 : Int32) (x4 : Int32) (σ : nm_St) : Rn X mi_Md_blowing F (nm_Qf X F nm_wI) [(1, .int x1), (3, .int x3), (4, .int x4)] [] 95 σ (Md_blowing_j95 x1 x3 x4 σ) := by
  unfold Md_blowing_j95
  refine rn_iload (pc := 95) dk_Md_blowing_95 rfl ?_
  refine rn_iload_n (pc := 97) 1 dk_Md_blowing_97 rfl rfl ?_
  refine rn_isub (pc := 98) dk_Md_blowing_98 ?_
  refine rn_istore (pc := 99) dk_Md_blowing_99 rfl rfl ?_
  exact rn_sub (by rfl) (r_Md_blowing_j101 X F hF0 x3 (x4 - x1) σ)
def Md_blowing_j84 (x1 : Int32) (x3 : Int32) (x4 : Int32) (σ : nm_St) : Option (Int32 × nm_St) :=
  (if x3 = (4 : Int32) then
    Md_blowing_j95 x1 x3 x4 σ
  else
    (if x3 = (6 : Int32) then
      Md_blowing_j95 x1 x3 x4 σ
    else
      Md_blowing_j101 x3 x4 σ))
set_option maxRecDepth 100000 in
set_option maxHeartbeats 4000000 in
theorem r_Md_blowing_j84 (X : nm_X) (F : nm_F) (hF0 : 1 ≤ nm_d F) (x1 : Int32) (x3 : Int32) (x4 : Int32) (σ : nm_St) : Rn X mi_Md_blowing F (nm_Qf X F nm_wI) [(1, .int x1), (3, .int x3), (4, .int x4)] [] 84 σ (Md_blowing_j84 x1 x3 x4 σ) := by
  unfold Md_blowing_j84
  refine rn_iload_n (pc := 84) 3 dk_Md_blowing_84 rfl rfl ?_
  refine rn_iconst (pc := 85) (4 : Int32) dk_Md_blowing_85 cn_i_4 ?_
  refine rn_icmp_eq (pc := 86) 95 dk_Md_blowing_86 (by decide) (fun c12 => ?_) (fun c12 => ?_)
  · exact rn_sub (by rfl) (r_Md_blowing_j95 X F hF0 x1 x3 x4 σ)
  · refine rn_iload_n (pc := 89) 3 dk_Md_blowing_89 rfl rfl ?_
    refine rn_bipush (pc := 90) (6 : Int32) dk_Md_blowing_90 cn_b_6 ?_
    refine rn_icmp_ne (pc := 92) 101 dk_Md_blowing_92 (by decide) (fun c14 => ?_) (fun c14 => ?_)
    · exact rn_sub (by rfl) (r_Md_blowing_j101 X F hF0 x3 x4 σ)
    · exact rn_sub (by rfl) (r_Md_blowing_j95 X F hF0 x1 x3 x4 σ)
def Md_blowing_j73 (x1 : Int32) (x3 : Int32) (x4 : Int32) (σ : nm_St) : Option (Int32 × nm_St) :=
  (nm_g (nm_in x1 8) (
  (nm_let ((x4 + (σ.1 73 x1.toNatClampNeg))) fun v11 =>
  Md_blowing_j84 x1 x3 v11 σ)))
set_option maxRecDepth 100000 in
set_option maxHeartbeats 4000000 in
theorem r_Md_blowing_j73 (X : nm_X) (F : nm_F) (hF0 : 1 ≤ nm_d F) (x1 : Int32) (x3 : Int32) (x4 : Int32) (σ : nm_St) : Rn X mi_Md_blowing F (nm_Qf X F nm_wI) [(0, .ref 70), (1, .int x1), (3, .int x3), (4, .int x4)] [] 73 σ (Md_blowing_j73 x1 x3 x4 σ) := by
  unfold Md_blowing_j73
  refine rn_iload (pc := 73) dk_Md_blowing_73 rfl ?_
  refine rn_aload_n (pc := 75) 0 dk_Md_blowing_75 rfl rfl rfl ?_
  refine gf_Md_29 (pc := 76) rfl dk_Md_blowing_76 ?_
  refine rn_iload_n (pc := 79) 1 dk_Md_blowing_79 rfl rfl ?_
  refine rn_iaload (pc := 80) rfl dk_Md_blowing_80 (fun g10 => ?_)
  refine rn_iadd (pc := 81) dk_Md_blowing_81 ?_
  refine rn_leti (fun v11 => ?_)
  refine rn_istore (pc := 82) dk_Md_blowing_82 rfl rfl ?_
  exact rn_sub (by rfl) (r_Md_blowing_j84 X F hF0 x1 x3 v11 σ)
def Md_blowing_j52 (x1 : Int32) (x2 : Int32) (x3 : Int32) (σ : nm_St) : Option (Int32 × nm_St) :=
  ((Md_body (10 : Int32) σ).bind fun q8 =>
  (if x3 = (1 : Int32) then
    Md_blowing_j73 x1 x3 (x2 + x1) q8.2
  else
    (if x3 = (3 : Int32) then
      Md_blowing_j73 x1 x3 (x2 + x1) q8.2
    else
      Md_blowing_j84 x1 x3 (x2 + x1) q8.2)))
set_option maxRecDepth 100000 in
set_option maxHeartbeats 4000000 in
theorem r_Md_blowing_j52 (X : nm_X) (F : nm_F) (hF0 : 1 ≤ nm_d F) (x1 : Int32) (x2 : Int32) (x3 : Int32) (σ : nm_St) : Rn X mi_Md_blowing F (nm_Qf X F nm_wI) [(0, .ref 70), (1, .int x1), (2, .int x2), (3, .int x3)] [] 52 σ (Md_blowing_j52 x1 x2 x3 σ) := by
  unfold Md_blowing_j52
  refine rn_aload_n (pc := 52) 0 dk_Md_blowing_52 rfl rfl rfl ?_
  refine rn_bipush (pc := 53) (10 : Int32) dk_Md_blowing_53 cn_b_10 ?_
  refine cl_Md_265 (pc := 55) (As := [.int (10 : Int32)]) (st := []) rfl (ct_Md_body X (10 : Int32) σ) (Nat.le_trans (Nat.le_of_ble_eq_true rfl) hF0) rfl rfl (Nat.le_of_ble_eq_true rfl) dk_Md_blowing_55 (fun q8 => ?_)
  refine rn_iload_n (pc := 58) 2 dk_Md_blowing_58 rfl rfl ?_
  refine rn_iload_n (pc := 59) 1 dk_Md_blowing_59 rfl rfl ?_
  refine rn_iadd (pc := 60) dk_Md_blowing_60 ?_
  refine rn_istore (pc := 61) dk_Md_blowing_61 rfl rfl ?_
  refine rn_iload_n (pc := 63) 3 dk_Md_blowing_63 rfl rfl ?_
  refine rn_iconst (pc := 64) (1 : Int32) dk_Md_blowing_64 cn_i_1 ?_
  refine rn_icmp_eq (pc := 65) 73 dk_Md_blowing_65 (by decide) (fun c9 => ?_) (fun c9 => ?_)
  · exact rn_sub (by rfl) (r_Md_blowing_j73 X F hF0 x1 x3 (x2 + x1) q8.2)
  · refine rn_iload_n (pc := 68) 3 dk_Md_blowing_68 rfl rfl ?_
    refine rn_iconst (pc := 69) (3 : Int32) dk_Md_blowing_69 cn_i_3 ?_
    refine rn_icmp_ne (pc := 70) 84 dk_Md_blowing_70 (by decide) (fun c15 => ?_) (fun c15 => ?_)
    · exact rn_sub (by rfl) (r_Md_blowing_j84 X F hF0 x1 x3 (x2 + x1) q8.2)
    · exact rn_sub (by rfl) (r_Md_blowing_j73 X F hF0 x1 x3 (x2 + x1) q8.2)
def Md_blowing_j46 (x1 : Int32) (x2 : Int32) (x3 : Int32) (σ : nm_St) : Option (Int32 × nm_St) :=
  ((Md_body (20 : Int32) σ).bind fun q7 =>
  Md_blowing_j52 x1 x2 x3 q7.2)
set_option maxRecDepth 100000 in
set_option maxHeartbeats 4000000 in
theorem r_Md_blowing_j46 (X : nm_X) (F : nm_F) (hF0 : 1 ≤ nm_d F) (x1 : Int32) (x2 : Int32) (x3 : Int32) (σ : nm_St) : Rn X mi_Md_blowing F (nm_Qf X F nm_wI) [(0, .ref 70), (1, .int x1), (2, .int x2), (3, .int x3)] [] 46 σ (Md_blowing_j46 x1 x2 x3 σ) := by
  unfold Md_blowing_j46
  refine rn_aload_n (pc := 46) 0 dk_Md_blowing_46 rfl rfl rfl ?_
  refine rn_bipush (pc := 47) (20 : Int32) dk_Md_blowing_47 cn_b_20 ?_
  refine cl_Md_265 (pc := 49) (As := [.int (20 : Int32)]) (st := []) rfl (ct_Md_body X (20 : Int32) σ) (Nat.le_trans (Nat.le_of_ble_eq_true rfl) hF0) rfl rfl (Nat.le_of_ble_eq_true rfl) dk_Md_blowing_49 (fun q7 => ?_)
  exact rn_sub (by rfl) (r_Md_blowing_j52 X F hF0 x1 x2 x3 q7.2)
def Md_blowing_j36 (x1 : Int32) (x2 : Int32) (x3 : Int32) (σ : nm_St) : Option (Int32 × nm_St) :=
  (if x3 = (1 : Int32) then
    Md_blowing_j46 x1 x2 x3 σ
  else
    (if x3 = (3 : Int32) then
      Md_blowing_j46 x1 x2 x3 σ
    else
      Md_blowing_j52 x1 x2 x3 σ))
set_option maxRecDepth 100000 in
set_option maxHeartbeats 4000000 in
theorem r_Md_blowing_j36 (X : nm_X) (F : nm_F) (hF0 : 1 ≤ nm_d F) (x1 : Int32) (x2 : Int32) (x3 : Int32) (σ : nm_St) : Rn X mi_Md_blowing F (nm_Qf X F nm_wI) [(0, .ref 70), (1, .int x1), (2, .int x2), (3, .int x3)] [] 36 σ (Md_blowing_j36 x1 x2 x3 σ) := by
  unfold Md_blowing_j36
  refine rn_iload_n (pc := 36) 3 dk_Md_blowing_36 rfl rfl ?_
  refine rn_iconst (pc := 37) (1 : Int32) dk_Md_blowing_37 cn_i_1 ?_
  refine rn_icmp_eq (pc := 38) 46 dk_Md_blowing_38 (by decide) (fun c6 => ?_) (fun c6 => ?_)
  · exact rn_sub (by rfl) (r_Md_blowing_j46 X F hF0 x1 x2 x3 σ)
  · refine rn_iload_n (pc := 41) 3 dk_Md_blowing_41 rfl rfl ?_
    refine rn_iconst (pc := 42) (3 : Int32) dk_Md_blowing_42 cn_i_3 ?_
    refine rn_icmp_ne (pc := 43) 52 dk_Md_blowing_43 (by decide) (fun c16 => ?_) (fun c16 => ?_)
    · exact rn_sub (by rfl) (r_Md_blowing_j52 X F hF0 x1 x2 x3 σ)
    · exact rn_sub (by rfl) (r_Md_blowing_j46 X F hF0 x1 x2 x3 σ)
def Md_blowing_j30 (x1 : Int32) (x2 : Int32) (x3 : Int32) (σ : nm_St) : Option (Int32 × nm_St) :=
  ((Md_body (51 : Int32) σ).bind fun q5 =>
  Md_blowing_j36 x1 x2 x3 q5.2)
set_option maxRecDepth 100000 in
set_option maxHeartbeats 4000000 in
theorem r_Md_blowing_j30 (X : nm_X) (F : nm_F) (hF0 : 1 ≤ nm_d F) (x1 : Int32) (x2 : Int32) (x3 : Int32) (σ : nm_St) : Rn X mi_Md_blowing F (nm_Qf X F nm_wI) [(0, .ref 70), (1, .int x1), (2, .int x2), (3, .int x3)] [] 30 σ (Md_blowing_j30 x1 x2 x3 σ) := by
  unfold Md_blowing_j30
  refine rn_aload_n (pc := 30) 0 dk_Md_blowing_30 rfl rfl rfl ?_
  refine rn_bipush (pc := 31) (51 : Int32) dk_Md_blowing_31 cn_b_51 ?_
  refine cl_Md_265 (pc := 33) (As := [.int (51 : Int32)]) (st := []) rfl (ct_Md_body X (51 : Int32) σ) (Nat.le_trans (Nat.le_of_ble_eq_true rfl) hF0) rfl rfl (Nat.le_of_ble_eq_true rfl) dk_Md_blowing_33 (fun q5 => ?_)
  exact rn_sub (by rfl) (r_Md_blowing_j36 X F hF0 x1 x2 x3 q5.2)
def Md_blowing_j19 (x1 : Int32) (x2 : Int32) (x3 : Int32) (σ : nm_St) : Option (Int32 × nm_St) :=
  (if x3 = (4 : Int32) then
    Md_blowing_j30 x1 x2 x3 σ
  else
    (if x3 = (6 : Int32) then
      Md_blowing_j30 x1 x2 x3 σ
    else
      Md_blowing_j36 x1 x2 x3 σ))
set_option maxRecDepth 100000 in
set_option maxHeartbeats 4000000 in
theorem r_Md_blowing_j19 (X : nm_X) (F : nm_F) (hF0 : 1 ≤ nm_d F) (x1 : Int32) (x2 : Int32) (x3 : Int32) (σ : nm_St) : Rn X mi_Md_blowing F (nm_Qf X F nm_wI) [(0, .ref 70), (1, .int x1), (2, .int x2), (3, .int x3)] [] 19 σ (Md_blowing_j19 x1 x2 x3 σ) := by
  unfold Md_blowing_j19
  refine rn_iload_n (pc := 19) 3 dk_Md_blowing_19 rfl rfl ?_
  refine rn_iconst (pc := 20) (4 : Int32) dk_Md_blowing_20 cn_i_4 ?_
  refine rn_icmp_eq (pc := 21) 30 dk_Md_blowing_21 (by decide) (fun c4 => ?_) (fun c4 => ?_)
  · exact rn_sub (by rfl) (r_Md_blowing_j30 X F hF0 x1 x2 x3 σ)
  · refine rn_iload_n (pc := 24) 3 dk_Md_blowing_24 rfl rfl ?_
    refine rn_bipush (pc := 25) (6 : Int32) dk_Md_blowing_25 cn_b_6 ?_
    refine rn_icmp_ne (pc := 27) 36 dk_Md_blowing_27 (by decide) (fun c17 => ?_) (fun c17 => ?_)
    · exact rn_sub (by rfl) (r_Md_blowing_j36 X F hF0 x1 x2 x3 σ)
    · exact rn_sub (by rfl) (r_Md_blowing_j30 X F hF0 x1 x2 x3 σ)
def Md_blowing (p1 : Int32) (p2 : Int32) (σ : nm_St) : Option (Int32 × nm_St) :=
  (nm_g (nm_in p1 8) (
  (nm_let ((σ.1 72 p1.toNatClampNeg)) fun v2 =>
  (if v2 = (6 : Int32) then
    ((Md_body (70 : Int32) σ).bind fun q18 =>
    Md_blowing_j19 p1 p2 v2 q18.2)
  else
    Md_blowing_j19 p1 p2 v2 σ))))
set_option maxRecDepth 100000 in
set_option maxHeartbeats 4000000 in
theorem ct_Md_blowing (X : nm_X) (p1 : Int32) (p2 : Int32) (σ : nm_St) : Ct X mi_Md_blowing 1 nm_wI [.ref 70, .int p1, .int p2] σ (Md_blowing p1 p2 σ) := by
  refine Ct.of (by decide +kernel) rfl (fun F hF0 => ?_)
  unfold Md_blowing
  refine rn_aload_n (pc := 0) 0 dk_Md_blowing_0 rfl rfl rfl ?_
  refine gf_Md_26 (pc := 1) rfl dk_Md_blowing_1 ?_
  refine rn_iload_n (pc := 4) 1 dk_Md_blowing_4 rfl rfl ?_
  refine rn_iaload (pc := 5) rfl dk_Md_blowing_5 (fun g1 => ?_)
  refine rn_leti (fun v2 => ?_)
  refine rn_istore_n (pc := 6) 3 dk_Md_blowing_6 rfl rfl rfl ?_
  refine rn_iload_n (pc := 7) 3 dk_Md_blowing_7 rfl rfl ?_
  refine rn_bipush (pc := 8) (6 : Int32) dk_Md_blowing_8 cn_b_6 ?_
  refine rn_icmp_ne (pc := 10) 19 dk_Md_blowing_10 (by decide) (fun c3 => ?_) (fun c3 => ?_)
  · exact rn_sub (by rfl) (r_Md_blowing_j19 X F hF0 p1 p2 v2 σ)
  · refine rn_aload_n (pc := 13) 0 dk_Md_blowing_13 rfl rfl rfl ?_
    refine rn_bipush (pc := 14) (70 : Int32) dk_Md_blowing_14 cn_b_70 ?_
    refine cl_Md_265 (pc := 16) (As := [.int (70 : Int32)]) (st := []) rfl (ct_Md_body X (70 : Int32) σ) (Nat.le_trans (Nat.le_of_ble_eq_true rfl) hF0) rfl rfl (Nat.le_of_ble_eq_true rfl) dk_Md_blowing_16 (fun q18 => ?_)
    exact rn_sub (by rfl) (r_Md_blowing_j19 X F hF0 p1 p2 v2 q18.2)
