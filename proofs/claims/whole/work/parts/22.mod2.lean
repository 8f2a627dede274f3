theorem dk_Md_ones_0 : decode mi_Md_ones.2.1 0 = .ok (.iconst 0, 1) := by decide +kernel
theorem dk_Md_ones_1 : decode mi_Md_ones.2.1 1 = .ok (.istore_n 2, 1) := by decide +kernel
theorem dk_Md_ones_2 : decode mi_Md_ones.2.1 2 = .ok (.iconst 0, 1) := by decide +kernel
theorem dk_Md_ones_3 : decode mi_Md_ones.2.1 3 = .ok (.istore_n 3, 1) := by decide +kernel
theorem dk_Md_ones_4 : decode mi_Md_ones.2.1 4 = .ok (.iload_n 3, 1) := by decide +kernel
theorem dk_Md_ones_5 : decode mi_Md_ones.2.1 5 = .ok (.bipush 8, 2) := by decide +kernel
theorem dk_Md_ones_7 : decode mi_Md_ones.2.1 7 = .ok (.if_icmp .ge 17, 3) := by decide +kernel
theorem dk_Md_ones_10 : decode mi_Md_ones.2.1 10 = .ok (.iload_n 2, 1) := by decide +kernel
theorem dk_Md_ones_11 : decode mi_Md_ones.2.1 11 = .ok (.iload_n 1, 1) := by decide +kernel
theorem dk_Md_ones_12 : decode mi_Md_ones.2.1 12 = .ok (.iload_n 3, 1) := by decide +kernel
theorem dk_Md_ones_13 : decode mi_Md_ones.2.1 13 = .ok (.ishr, 1) := by decide +kernel
theorem dk_Md_ones_14 : decode mi_Md_ones.2.1 14 = .ok (.iconst 1, 1) := by decide +kernel
theorem dk_Md_ones_15 : decode mi_Md_ones.2.1 15 = .ok (.iand, 1) := by decide +kernel
theorem dk_Md_ones_16 : decode mi_Md_ones.2.1 16 = .ok (.iadd, 1) := by decide +kernel
theorem dk_Md_ones_17 : decode mi_Md_ones.2.1 17 = .ok (.istore_n 2, 1) := by decide +kernel
theorem dk_Md_ones_18 : decode mi_Md_ones.2.1 18 = .ok (.iinc 3 1, 3) := by decide +kernel
theorem dk_Md_ones_21 : decode mi_Md_ones.2.1 21 = .ok (.goto (-17), 3) := by decide +kernel
theorem dk_Md_ones_24 : decode mi_Md_ones.2.1 24 = .ok (.iload_n 2, 1) := by decide +kernel
theorem dk_Md_ones_25 : decode mi_Md_ones.2.1 25 = .ok (.ireturn, 1) := by decide +kernel
def Md_ones_l4 (k_24 : Int32 → nm_St → Option (Int32 × nm_St)) : Nat → Int32 → Int32 → Int32 → nm_St → Option (Int32 × nm_St)
  | 0, _, _, _, _ => none
  | n + 1, x1, x2, x3, σ =>
    (if (8 : Int32) ≤ x3 then
      k_24 x2 σ
    else
      (nm_let ((x2 + ((x1 >>> (x3 &&& 31)) &&& (1 : Int32)))) fun v2 =>
      (Md_ones_l4 k_24 n) x1 v2 (x3 + (1 : Int32)) σ))
set_option maxRecDepth 100000 in
set_option maxHeartbeats 4000000 in
theorem r_Md_ones_l4 (X : nm_X) (F : nm_F) (hF0 : 0 ≤ nm_d F) (k_24 : Int32 → nm_St → Option (Int32 × nm_St)) (hk_24 : ∀ (x2 : Int32) (σ : nm_St), Rn X mi_Md_ones F (nm_Qf X F nm_wI) [(2, .int x2)] [] 24 σ (k_24 x2 σ)) : ∀ (n : Nat) (x1 : Int32) (x2 : Int32) (x3 : Int32) (σ : nm_St), Rn X mi_Md_ones F (nm_Qf X F nm_wI) [(1, .int x1), (2, .int x2), (3, .int x3)] [] 4 σ (Md_ones_l4 k_24 n x1 x2 x3 σ) := by
  intro n
  induction n with
  | zero =>
    intro x1 x2 x3 σ
    exact rn_none
  | succ n ih =>
    intro x1 x2 x3 σ
    unfold Md_ones_l4
    refine rn_iload_n (pc := 4) 3 dk_Md_ones_4 rfl rfl ?_
    refine rn_bipush (pc := 5) (8 : Int32) dk_Md_ones_5 cn_b_8 ?_
    refine rn_icmp_ge (pc := 7) 24 dk_Md_ones_7 (by decide) (fun c1 => ?_) (fun c1 => ?_)
    · exact rn_sub (by rfl) (hk_24 x2 σ)
    · refine rn_iload_n (pc := 10) 2 dk_Md_ones_10 rfl rfl ?_
      refine rn_iload_n (pc := 11) 1 dk_Md_ones_11 rfl rfl ?_
      refine rn_iload_n (pc := 12) 3 dk_Md_ones_12 rfl rfl ?_
      refine rn_ishr (pc := 13) dk_Md_ones_13 ?_
      refine rn_iconst (pc := 14) (1 : Int32) dk_Md_ones_14 cn_i_1 ?_
      refine rn_iand (pc := 15) dk_Md_ones_15 ?_
      refine rn_iadd (pc := 16) dk_Md_ones_16 ?_
      refine rn_leti (fun v2 => ?_)
      refine rn_istore_n (pc := 17) 2 dk_Md_ones_17 rfl rfl rfl ?_
      refine rn_iinc (pc := 18) (1 : Int32) dk_Md_ones_18 cn_i_1 rfl rfl rfl ?_
      refine rn_goto (pc := 21) 4 dk_Md_ones_21 (by decide) ?_
      exact rn_sub (by rfl) (ih x1 v2 (x3 + (1 : Int32)) σ)
def Md_ones (p1 : Int32) (σ : nm_St) : Option (Int32 × nm_St) :=
  Md_ones_l4 (fun (e4 : Int32) (s3 : nm_St) =>
    some (e4, s3)) 400 p1 (0 : Int32) (0 : Int32) σ
set_option maxRecDepth 100000 in
set_option maxHeartbeats 4000000 in
theorem ct_Md_ones (X : nm_X) (p1 : Int32) (σ : nm_St) : Ct X mi_Md_ones 0 nm_wI [.ref 70, .int p1] σ (Md_ones p1 σ) := by
  refine Ct.of (by decide +kernel) rfl (fun F hF0 => ?_)
  unfold Md_ones
  refine rn_iconst (pc := 0) (0 : Int32) dk_Md_ones_0 cn_i_0 ?_
  refine rn_istore_n (pc := 1) 2 dk_Md_ones_1 rfl rfl rfl ?_
  refine rn_iconst (pc := 2) (0 : Int32) dk_Md_ones_2 cn_i_0 ?_
  refine rn_istore_n (pc := 3) 3 dk_Md_ones_3 rfl rfl rfl ?_
  refine rn_sub (by rfl) (r_Md_ones_l4 X F hF0 _ (fun e4 s3 => ?_) 400 p1 (0 : Int32) (0 : Int32) σ)
  refine rn_iload_n (pc := 24) 2 dk_Md_ones_24 rfl rfl ?_
  exact rn_iret rfl dk_Md_ones_25
theorem dk_Md_fewest_0 : decode mi_Md_fewest.2.1 0 = .ok (.aload_n 0, 1) := by decide +kernel
theorem dk_Md_fewest_1 : decode mi_Md_fewest.2.1 1 = .ok (.iconst 0, 1) := by decide +kernel
theorem dk_Md_fewest_2 : decode mi_Md_fewest.2.1 2 = .ok (.invokevirtual 183, 3) := by decide +kernel
theorem dk_Md_fewest_5 : decode mi_Md_fewest.2.1 5 = .ok (.istore_n 1, 1) := by decide +kernel
theorem dk_Md_fewest_6 : decode mi_Md_fewest.2.1 6 = .ok (.aload_n 0, 1) := by decide +kernel
theorem dk_Md_fewest_7 : decode mi_Md_fewest.2.1 7 = .ok (.iconst 1, 1) := by decide +kernel
theorem dk_Md_fewest_8 : decode mi_Md_fewest.2.1 8 = .ok (.invokevirtual 183, 3) := by decide +kernel
theorem dk_Md_fewest_11 : decode mi_Md_fewest.2.1 11 = .ok (.istore_n 2, 1) := by decide +kernel
theorem dk_Md_fewest_12 : decode mi_Md_fewest.2.1 12 = .ok (.iconst (-1), 1) := by decide +kernel
theorem dk_Md_fewest_13 : decode mi_Md_fewest.2.1 13 = .ok (.istore_n 3, 1) := by decide +kernel
theorem dk_Md_fewest_14 : decode mi_Md_fewest.2.1 14 = .ok (.iconst 0, 1) := by decide +kernel
theorem dk_Md_fewest_15 : decode mi_Md_fewest.2.1 15 = .ok (.istore 4, 2) := by decide +kernel
theorem dk_Md_fewest_17 : decode mi_Md_fewest.2.1 17 = .ok (.iload 4, 2) := by decide +kernel
theorem dk_Md_fewest_19 : decode mi_Md_fewest.2.1 19 = .ok (.iconst 1, 1) := by decide +kernel
theorem dk_Md_fewest_20 : decode mi_Md_fewest.2.1 20 = .ok (.aload_n 0, 1) := by decide +kernel
theorem dk_Md_fewest_21 : decode mi_Md_fewest.2.1 21 = .ok (.getfield 90, 3) := by decide +kernel
theorem dk_Md_fewest_24 : decode mi_Md_fewest.2.1 24 = .ok (.ishl, 1) := by decide +kernel
theorem dk_Md_fewest_25 : decode mi_Md_fewest.2.1 25 = .ok (.if_icmp .ge 54, 3) := by decide +kernel
theorem dk_Md_fewest_28 : decode mi_Md_fewest.2.1 28 = .ok (.iload 4, 2) := by decide +kernel
theorem dk_Md_fewest_30 : decode mi_Md_fewest.2.1 30 = .ok (.iload_n 1, 1) := by decide +kernel
theorem dk_Md_fewest_31 : decode mi_Md_fewest.2.1 31 = .ok (.iconst (-1), 1) := by decide +kernel
theorem dk_Md_fewest_32 : decode mi_Md_fewest.2.1 32 = .ok (.ixor, 1) := by decide +kernel
theorem dk_Md_fewest_33 : decode mi_Md_fewest.2.1 33 = .ok (.iand, 1) := by decide +kernel
theorem dk_Md_fewest_34 : decode mi_Md_fewest.2.1 34 = .ok (.ifCond .ne 39, 3) := by decide +kernel
theorem dk_Md_fewest_37 : decode mi_Md_fewest.2.1 37 = .ok (.aload_n 0, 1) := by decide +kernel
theorem dk_Md_fewest_38 : decode mi_Md_fewest.2.1 38 = .ok (.iload 4, 2) := by decide +kernel
theorem dk_Md_fewest_40 : decode mi_Md_fewest.2.1 40 = .ok (.iload_n 2, 1) := by decide +kernel
theorem dk_Md_fewest_41 : decode mi_Md_fewest.2.1 41 = .ok (.ior, 1) := by decide +kernel
theorem dk_Md_fewest_42 : decode mi_Md_fewest.2.1 42 = .ok (.invokevirtual 186, 3) := by decide +kernel
theorem dk_Md_fewest_45 : decode mi_Md_fewest.2.1 45 = .ok (.ifCond .ne 6, 3) := by decide +kernel
theorem dk_Md_fewest_48 : decode mi_Md_fewest.2.1 48 = .ok (.goto 25, 3) := by decide +kernel
theorem dk_Md_fewest_51 : decode mi_Md_fewest.2.1 51 = .ok (.iload_n 3, 1) := by decide +kernel
theorem dk_Md_fewest_52 : decode mi_Md_fewest.2.1 52 = .ok (.iconst (-1), 1) := by decide +kernel
theorem dk_Md_fewest_53 : decode mi_Md_fewest.2.1 53 = .ok (.if_icmp .eq 17, 3) := by decide +kernel
theorem dk_Md_fewest_56 : decode mi_Md_fewest.2.1 56 = .ok (.aload_n 0, 1) := by decide +kernel
theorem dk_Md_fewest_57 : decode mi_Md_fewest.2.1 57 = .ok (.iload 4, 2) := by decide +kernel
theorem dk_Md_fewest_59 : decode mi_Md_fewest.2.1 59 = .ok (.invokevirtual 189, 3) := by decide +kernel
theorem dk_Md_fewest_62 : decode mi_Md_fewest.2.1 62 = .ok (.aload_n 0, 1) := by decide +kernel
theorem dk_Md_fewest_63 : decode mi_Md_fewest.2.1 63 = .ok (.iload_n 3, 1) := by decide +kernel
theorem dk_Md_fewest_64 : decode mi_Md_fewest.2.1 64 = .ok (.invokevirtual 189, 3) := by decide +kernel
theorem dk_Md_fewest_67 : decode mi_Md_fewest.2.1 67 = .ok (.if_icmp .ge 6, 3) := by decide +kernel
theorem dk_Md_fewest_70 : decode mi_Md_fewest.2.1 70 = .ok (.iload 4, 2) := by decide +kernel
theorem dk_Md_fewest_72 : decode mi_Md_fewest.2.1 72 = .ok (.istore_n 3, 1) := by decide +kernel
theorem dk_Md_fewest_73 : decode mi_Md_fewest.2.1 73 = .ok (.iinc 4 1, 3) := by decide +kernel
theorem dk_Md_fewest_76 : decode mi_Md_fewest.2.1 76 = .ok (.goto (-59), 3) := by decide +kernel
theorem dk_Md_fewest_79 : decode mi_Md_fewest.2.1 79 = .ok (.iload_n 3, 1) := by decide +kernel
theorem dk_Md_fewest_80 : decode mi_Md_fewest.2.1 80 = .ok (.ireturn, 1) := by decide +kernel
def Md_fewest_l17 (k_79 : Int32 → nm_St → Option (Int32 × nm_St)) : Nat → Int32 → Int32 → Int32 → Int32 → nm_St → Option (Int32 × nm_St)
  | 0, _, _, _, _, _ => none
  | n + 1, x1, x2, x3, x4, σ =>
    (if ((1 : Int32) <<< ((σ.1 70 0) &&& 31)) ≤ x4 then
      k_79 x3 σ
    else
      (if (x4 &&& (x1 ^^^ (-1 : Int32))) = 0 then
        ((Md_isMade (x4 ||| x2) σ).bind fun q5 =>
        (if q5.1 = 0 then
          (Md_fewest_l17 k_79 n) x1 x2 x3 (x4 + (1 : Int32)) q5.2
        else
          (if x3 = (-1 : Int32) then
            (Md_fewest_l17 k_79 n) x1 x2 x4 (x4 + (1 : Int32)) q5.2
          else
            ((Md_ones x4 q5.2).bind fun q8 =>
            ((Md_ones x3 q8.2).bind fun q9 =>
            (if q9.1 ≤ q8.1 then
              (Md_fewest_l17 k_79 n) x1 x2 x3 (x4 + (1 : Int32)) q9.2
            else
              (Md_fewest_l17 k_79 n) x1 x2 x4 (x4 + (1 : Int32)) q9.2))))))
      else
        (Md_fewest_l17 k_79 n) x1 x2 x3 (x4 + (1 : Int32)) σ))
set_option maxRecDepth 100000 in
set_option maxHeartbeats 4000000 in
theorem r_Md_fewest_l17 (X : nm_X) (F : nm_F) (hF0 : 3 ≤ nm_d F) (k_79 : Int32 → nm_St → Option (Int32 × nm_St)) (hk_79 : ∀ (x3 : Int32) (σ : nm_St), Rn X mi_Md_fewest F (nm_Qf X F nm_wI) [(3, .int x3)] [] 79 σ (k_79 x3 σ)) : ∀ (n : Nat) (x1 : Int32) (x2 : Int32) (x3 : Int32) (x4 : Int32) (σ : nm_St), Rn X mi_Md_fewest F (nm_Qf X F nm_wI) [(0, .ref 70), (1, .int x1), (2, .int x2), (3, .int x3), (4, .int x4)] [] 17 σ (Md_fewest_l17 k_79 n x1 x2 x3 x4 σ) := by
  intro n
  induction n with
  | zero =>
    intro x1 x2 x3 x4 σ
    exact rn_none
  | succ n ih =>
    intro x1 x2 x3 x4 σ
    unfold Md_fewest_l17
    refine rn_iload (pc := 17) dk_Md_fewest_17 rfl ?_
    refine rn_iconst (pc := 19) (1 : Int32) dk_Md_fewest_19 cn_i_1 ?_
    refine rn_aload_n (pc := 20) 0 dk_Md_fewest_20 rfl rfl rfl ?_
    refine gf_Md_90 (pc := 21) rfl dk_Md_fewest_21 ?_
    refine rn_ishl (pc := 24) dk_Md_fewest_24 ?_
    refine rn_icmp_ge (pc := 25) 79 dk_Md_fewest_25 (by decide) (fun c3 => ?_) (fun c3 => ?_)
    · exact rn_sub (by rfl) (hk_79 x3 σ)
    · refine rn_iload (pc := 28) dk_Md_fewest_28 rfl ?_
      refine rn_iload_n (pc := 30) 1 dk_Md_fewest_30 rfl rfl ?_
      refine rn_iconst (pc := 31) (-1 : Int32) dk_Md_fewest_31 cn_i_m1 ?_
      refine rn_ixor (pc := 32) dk_Md_fewest_32 ?_
      refine rn_iand (pc := 33) dk_Md_fewest_33 ?_
      refine rn_if_ne (pc := 34) 73 dk_Md_fewest_34 (by decide) (fun c4 => ?_) (fun c4 => ?_)
      · refine rn_iinc (pc := 73) (1 : Int32) dk_Md_fewest_73 cn_i_1 rfl rfl rfl ?_
        refine rn_goto (pc := 76) 17 dk_Md_fewest_76 (by decide) ?_
        exact rn_sub (by rfl) (ih x1 x2 x3 (x4 + (1 : Int32)) σ)
      · refine rn_aload_n (pc := 37) 0 dk_Md_fewest_37 rfl rfl rfl ?_
        refine rn_iload (pc := 38) dk_Md_fewest_38 rfl ?_
        refine rn_iload_n (pc := 40) 2 dk_Md_fewest_40 rfl rfl ?_
        refine rn_ior (pc := 41) dk_Md_fewest_41 ?_
        refine cl_Md_186 (pc := 42) (As := [.int (x4 ||| x2)]) (st := []) rfl (ct_Md_isMade X (x4 ||| x2) σ) (Nat.le_trans (Nat.le_of_ble_eq_true rfl) hF0) rfl rfl (Nat.le_of_ble_eq_true rfl) dk_Md_fewest_42 (fun q5 => ?_)
        refine rn_if_ne (pc := 45) 51 dk_Md_fewest_45 (by decide) (fun c6 => ?_) (fun c6 => ?_)
        · refine rn_iload_n (pc := 51) 3 dk_Md_fewest_51 rfl rfl ?_
          refine rn_iconst (pc := 52) (-1 : Int32) dk_Md_fewest_52 cn_i_m1 ?_
          refine rn_icmp_eq (pc := 53) 70 dk_Md_fewest_53 (by decide) (fun c7 => ?_) (fun c7 => ?_)
          · refine rn_iload (pc := 70) dk_Md_fewest_70 rfl ?_
            refine rn_istore_n (pc := 72) 3 dk_Md_fewest_72 rfl rfl rfl ?_
            refine rn_iinc (pc := 73) (1 : Int32) dk_Md_fewest_73 cn_i_1 rfl rfl rfl ?_
            refine rn_goto (pc := 76) 17 dk_Md_fewest_76 (by decide) ?_
            exact rn_sub (by rfl) (ih x1 x2 x4 (x4 + (1 : Int32)) q5.2)
          · refine rn_aload_n (pc := 56) 0 dk_Md_fewest_56 rfl rfl rfl ?_
            refine rn_iload (pc := 57) dk_Md_fewest_57 rfl ?_
            refine cl_Md_189 (pc := 59) (As := [.int x4]) (st := []) rfl (ct_Md_ones X x4 q5.2) (Nat.le_trans (Nat.le_of_ble_eq_true rfl) hF0) rfl rfl (Nat.le_of_ble_eq_true rfl) dk_Md_fewest_59 (fun q8 => ?_)
            refine rn_aload_n (pc := 62) 0 dk_Md_fewest_62 rfl rfl rfl ?_
            refine rn_iload_n (pc := 63) 3 dk_Md_fewest_63 rfl rfl ?_
            refine cl_Md_189 (pc := 64) (As := [.int x3]) (st := [.int q8.1]) rfl (ct_Md_ones X x3 q8.2) (Nat.le_trans (Nat.le_of_ble_eq_true rfl) hF0) rfl rfl (Nat.le_of_ble_eq_true rfl) dk_Md_fewest_64 (fun q9 => ?_)
            refine rn_icmp_ge (pc := 67) 73 dk_Md_fewest_67 (by decide) (fun c10 => ?_) (fun c10 => ?_)
            · refine rn_iinc (pc := 73) (1 : Int32) dk_Md_fewest_73 cn_i_1 rfl rfl rfl ?_
              refine rn_goto (pc := 76) 17 dk_Md_fewest_76 (by decide) ?_
              exact rn_sub (by rfl) (ih x1 x2 x3 (x4 + (1 : Int32)) q9.2)
            · refine rn_iload (pc := 70) dk_Md_fewest_70 rfl ?_
              refine rn_istore_n (pc := 72) 3 dk_Md_fewest_72 rfl rfl rfl ?_
              refine rn_iinc (pc := 73) (1 : Int32) dk_Md_fewest_73 cn_i_1 rfl rfl rfl ?_
              refine rn_goto (pc := 76) 17 dk_Md_fewest_76 (by decide) ?_
              exact rn_sub (by rfl) (ih x1 x2 x4 (x4 + (1 : Int32)) q9.2)
        · refine rn_goto (pc := 48) 73 dk_Md_fewest_48 (by decide) ?_
          refine rn_iinc (pc := 73) (1 : Int32) dk_Md_fewest_73 cn_i_1 rfl rfl rfl ?_
          refine rn_goto (pc := 76) 17 dk_Md_fewest_76 (by decide) ?_
          exact rn_sub (by rfl) (ih x1 x2 x3 (x4 + (1 : Int32)) q5.2)
def Md_fewest (σ : nm_St) : Option (Int32 × nm_St) :=
  ((Md_those (0 : Int32) σ).bind fun q1 =>
  ((Md_those (1 : Int32) q1.2).bind fun q2 =>
  Md_fewest_l17 (fun (e12 : Int32) (s11 : nm_St) =>
    some (e12, s11)) 400 q1.1 q2.1 (-1 : Int32) (0 : Int32) q2.2))
set_option maxRecDepth 100000 in
set_option maxHeartbeats 4000000 in
theorem ct_Md_fewest (X : nm_X) (σ : nm_St) : Ct X mi_Md_fewest 3 nm_wI [.ref 70] σ (Md_fewest σ) := by
  refine Ct.of (by decide +kernel) rfl (fun F hF0 => ?_)
  unfold Md_fewest
  refine rn_aload_n (pc := 0) 0 dk_Md_fewest_0 rfl rfl rfl ?_
  refine rn_iconst (pc := 1) (0 : Int32) dk_Md_fewest_1 cn_i_0 ?_
  refine cl_Md_183 (pc := 2) (As := [.int (0 : Int32)]) (st := []) rfl (ct_Md_those X (0 : Int32) σ) (Nat.le_trans (Nat.le_of_ble_eq_true rfl) hF0) rfl rfl (Nat.le_of_ble_eq_true rfl) dk_Md_fewest_2 (fun q1 => ?_)
  refine rn_istore_n (pc := 5) 1 dk_Md_fewest_5 rfl rfl rfl ?_
  refine rn_aload_n (pc := 6) 0 dk_Md_fewest_6 rfl rfl rfl ?_
  refine rn_iconst (pc := 7) (1 : Int32) dk_Md_fewest_7 cn_i_1 ?_
  refine cl_Md_183 (pc := 8) (As := [.int (1 : Int32)]) (st := []) rfl (ct_Md_those X (1 : Int32) q1.2) (Nat.le_trans (Nat.le_of_ble_eq_true rfl) hF0) rfl rfl (Nat.le_of_ble_eq_true rfl) dk_Md_fewest_8 (fun q2 => ?_)
  refine rn_istore_n (pc := 11) 2 dk_Md_fewest_11 rfl rfl rfl ?_
  refine rn_iconst (pc := 12) (-1 : Int32) dk_Md_fewest_12 cn_i_m1 ?_
  refine rn_istore_n (pc := 13) 3 dk_Md_fewest_13 rfl rfl rfl ?_
  refine rn_iconst (pc := 14) (0 : Int32) dk_Md_fewest_14 cn_i_0 ?_
  refine rn_istore (pc := 15) dk_Md_fewest_15 rfl rfl ?_
  refine rn_sub (by rfl) (r_Md_fewest_l17 X F hF0 _ (fun e12 s11 => ?_) 400 q1.1 q2.1 (-1 : Int32) (0 : Int32) q2.2)
  refine rn_iload_n (pc := 79) 3 dk_Md_fewest_79 rfl rfl ?_
  exact rn_iret rfl dk_Md_fewest_80
theorem dk_Md_prices_0 : decode mi_Md_prices.2.1 0 = .ok (.iconst 0, 1) := by decide +kernel
theorem dk_Md_prices_1 : decode mi_Md_prices.2.1 1 = .ok (.istore_n 2, 1) := by decide +kernel
theorem dk_Md_prices_2 : decode mi_Md_prices.2.1 2 = .ok (.iconst 0, 1) := by decide +kernel
theorem dk_Md_prices_3 : decode mi_Md_prices.2.1 3 = .ok (.istore_n 3, 1) := by decide +kernel
theorem dk_Md_prices_4 : decode mi_Md_prices.2.1 4 = .ok (.iload_n 3, 1) := by decide +kernel
theorem dk_Md_prices_5 : decode mi_Md_prices.2.1 5 = .ok (.aload_n 0, 1) := by decide +kernel
theorem dk_Md_prices_6 : decode mi_Md_prices.2.1 6 = .ok (.getfield 90, 3) := by decide +kernel
theorem dk_Md_prices_9 : decode mi_Md_prices.2.1 9 = .ok (.if_icmp .ge 26, 3) := by decide +kernel
theorem dk_Md_prices_12 : decode mi_Md_prices.2.1 12 = .ok (.aload_n 0, 1) := by decide +kernel
theorem dk_Md_prices_13 : decode mi_Md_prices.2.1 13 = .ok (.iload_n 1, 1) := by decide +kernel
theorem dk_Md_prices_14 : decode mi_Md_prices.2.1 14 = .ok (.iload_n 3, 1) := by decide +kernel
theorem dk_Md_prices_15 : decode mi_Md_prices.2.1 15 = .ok (.invokevirtual 174, 3) := by decide +kernel
theorem dk_Md_prices_18 : decode mi_Md_prices.2.1 18 = .ok (.ifCond .eq 11, 3) := by decide +kernel
theorem dk_Md_prices_21 : decode mi_Md_prices.2.1 21 = .ok (.iload_n 2, 1) := by decide +kernel
theorem dk_Md_prices_22 : decode mi_Md_prices.2.1 22 = .ok (.aload_n 0, 1) := by decide +kernel
theorem dk_Md_prices_23 : decode mi_Md_prices.2.1 23 = .ok (.iload_n 3, 1) := by decide +kernel
theorem dk_Md_prices_24 : decode mi_Md_prices.2.1 24 = .ok (.invokevirtual 107, 3) := by decide +kernel
theorem dk_Md_prices_27 : decode mi_Md_prices.2.1 27 = .ok (.iadd, 1) := by decide +kernel
theorem dk_Md_prices_28 : decode mi_Md_prices.2.1 28 = .ok (.istore_n 2, 1) := by decide +kernel
theorem dk_Md_prices_29 : decode mi_Md_prices.2.1 29 = .ok (.iinc 3 1, 3) := by decide +kernel
theorem dk_Md_prices_32 : decode mi_Md_prices.2.1 32 = .ok (.goto (-28), 3) := by decide +kernel
theorem dk_Md_prices_35 : decode mi_Md_prices.2.1 35 = .ok (.iload_n 2, 1) := by decide +kernel
theorem dk_Md_prices_36 : decode mi_Md_prices.2.1 36 = .ok (.ireturn, 1) := by decide +kernel
def Md_prices_l4 (k_35 : Int32 → nm_St → Option (Int32 × nm_St)) : Nat → Int32 → Int32 → Int32 → nm_St → Option (Int32 × nm_St)
  | 0, _, _, _, _ => none
  | n + 1, x1, x2, x3, σ =>
    (if (σ.1 70 0) ≤ x3 then
      k_35 x2 σ
    else
      ((Md_has x1 x3 σ).bind fun q2 =>
      (if q2.1 = 0 then
        (Md_prices_l4 k_35 n) x1 x2 (x3 + (1 : Int32)) q2.2
      else
        ((Md_price x3 q2.2).bind fun q4 =>
        (Md_prices_l4 k_35 n) x1 (x2 + q4.1) (x3 + (1 : Int32)) q4.2))))
set_option maxRecDepth 100000 in
set_option maxHeartbeats 4000000 in
theorem r_Md_prices_l4 (X : nm_X) (F : nm_F) (hF0 : 3 ≤ nm_d F) (k_35 : Int32 → nm_St → Option (Int32 × nm_St)) (hk_35 : ∀ (x2 : Int32) (σ : nm_St), Rn X mi_Md_prices F (nm_Qf X F nm_wI) [(2, .int x2)] [] 35 σ (k_35 x2 σ)) : ∀ (n : Nat) (x1 : Int32) (x2 : Int32) (x3 : Int32) (σ : nm_St), Rn X mi_Md_prices F (nm_Qf X F nm_wI) [(0, .ref 70), (1, .int x1), (2, .int x2), (3, .int x3)] [] 4 σ (Md_prices_l4 k_35 n x1 x2 x3 σ) := by
  intro n
  induction n with
  | zero =>
    intro x1 x2 x3 σ
    exact rn_none
  | succ n ih =>
    intro x1 x2 x3 σ
    unfold Md_prices_l4
    refine rn_iload_n (pc := 4) 3 dk_Md_prices_4 rfl rfl ?_
    refine rn_aload_n (pc := 5) 0 dk_Md_prices_5 rfl rfl rfl ?_
    refine gf_Md_90 (pc := 6) rfl dk_Md_prices_6 ?_
    refine rn_icmp_ge (pc := 9) 35 dk_Md_prices_9 (by decide) (fun c1 => ?_) (fun c1 => ?_)
    · exact rn_sub (by rfl) (hk_35 x2 σ)
    · refine rn_aload_n (pc := 12) 0 dk_Md_prices_12 rfl rfl rfl ?_
      refine rn_iload_n (pc := 13) 1 dk_Md_prices_13 rfl rfl ?_
      refine rn_iload_n (pc := 14) 3 dk_Md_prices_14 rfl rfl ?_
      refine cl_Md_174 (pc := 15) (As := [.int x1, .int x3]) (st := []) rfl (ct_Md_has X x1 x3 σ) (Nat.le_trans (Nat.le_of_ble_eq_true rfl) hF0) rfl rfl (Nat.le_of_ble_eq_true rfl) dk_Md_prices_15 (fun q2 => ?_)
      refine rn_if_eq (pc := 18) 29 dk_Md_prices_18 (by decide) (fun c3 => ?_) (fun c3 => ?_)
      · refine rn_iinc (pc := 29) (1 : Int32) dk_Md_prices_29 cn_i_1 rfl rfl rfl ?_
        refine rn_goto (pc := 32) 4 dk_Md_prices_32 (by decide) ?_
        exact rn_sub (by rfl) (ih x1 x2 (x3 + (1 : Int32)) q2.2)
      · refine rn_iload_n (pc := 21) 2 dk_Md_prices_21 rfl rfl ?_
        refine rn_aload_n (pc := 22) 0 dk_Md_prices_22 rfl rfl rfl ?_
        refine rn_iload_n (pc := 23) 3 dk_Md_prices_23 rfl rfl ?_
        refine cl_Md_107 (pc := 24) (As := [.int x3]) (st := [.int x2]) rfl (ct_Md_price X x3 q2.2) (Nat.le_trans (Nat.le_of_ble_eq_true rfl) hF0) rfl rfl (Nat.le_of_ble_eq_true rfl) dk_Md_prices_24 (fun q4 => ?_)
        refine rn_iadd (pc := 27) dk_Md_prices_27 ?_
        refine rn_istore_n (pc := 28) 2 dk_Md_prices_28 rfl rfl rfl ?_
        refine rn_iinc (pc := 29) (1 : Int32) dk_Md_prices_29 cn_i_1 rfl rfl rfl ?_
        refine rn_goto (pc := 32) 4 dk_Md_prices_32 (by decide) ?_
        exact rn_sub (by rfl) (ih x1 (x2 + q4.1) (x3 + (1 : Int32)) q4.2)
def Md_prices (p1 : Int32) (σ : nm_St) : Option (Int32 × nm_St) :=
  Md_prices_l4 (fun (e6 : Int32) (s5 : nm_St) =>
    some (e6, s5)) 400 p1 (0 : Int32) (0 : Int32) σ
set_option maxRecDepth 100000 in
set_option maxHeartbeats 4000000 in
theorem ct_Md_prices (X : nm_X) (p1 : Int32) (σ : nm_St) : Ct X mi_Md_prices 3 nm_wI [.ref 70, .int p1] σ (Md_prices p1 σ) := by
  refine Ct.of (by decide +kernel) rfl (fun F hF0 => ?_)
  unfold Md_prices
  refine rn_iconst (pc := 0) (0 : Int32) dk_Md_prices_0 cn_i_0 ?_
  refine rn_istore_n (pc := 1) 2 dk_Md_prices_1 rfl rfl rfl ?_
  refine rn_iconst (pc := 2) (0 : Int32) dk_Md_prices_2 cn_i_0 ?_
  refine rn_istore_n (pc := 3) 3 dk_Md_prices_3 rfl rfl rfl ?_
  refine rn_sub (by rfl) (r_Md_prices_l4 X F hF0 _ (fun e6 s5 => ?_) 400 p1 (0 : Int32) (0 : Int32) σ)
  refine rn_iload_n (pc := 35) 2 dk_Md_prices_35 rfl rfl ?_
  exact rn_iret rfl dk_Md_prices_36
theorem dk_Md_cheapestSet_0 : decode mi_Md_cheapestSet.2.1 0 = .ok (.aload_n 0, 1) := by decide +kernel
theorem dk_Md_cheapestSet_1 : decode mi_Md_cheapestSet.2.1 1 = .ok (.iconst 0, 1) := by decide +kernel
theorem dk_Md_cheapestSet_2 : decode mi_Md_cheapestSet.2.1 2 = .ok (.invokevirtual 183, 3) := by decide +kernel
theorem dk_Md_cheapestSet_5 : decode mi_Md_cheapestSet.2.1 5 = .ok (.istore_n 1, 1) := by decide +kernel
theorem dk_Md_cheapestSet_6 : decode mi_Md_cheapestSet.2.1 6 = .ok (.aload_n 0, 1) := by decide +kernel
theorem dk_Md_cheapestSet_7 : decode mi_Md_cheapestSet.2.1 7 = .ok (.iconst 1, 1) := by decide +kernel
theorem dk_Md_cheapestSet_8 : decode mi_Md_cheapestSet.2.1 8 = .ok (.invokevirtual 183, 3) := by decide +kernel
theorem dk_Md_cheapestSet_11 : decode mi_Md_cheapestSet.2.1 11 = .ok (.istore_n 2, 1) := by decide +kernel
theorem dk_Md_cheapestSet_12 : decode mi_Md_cheapestSet.2.1 12 = .ok (.iconst (-1), 1) := by decide +kernel
theorem dk_Md_cheapestSet_13 : decode mi_Md_cheapestSet.2.1 13 = .ok (.istore_n 3, 1) := by decide +kernel
theorem dk_Md_cheapestSet_14 : decode mi_Md_cheapestSet.2.1 14 = .ok (.iconst 0, 1) := by decide +kernel
theorem dk_Md_cheapestSet_15 : decode mi_Md_cheapestSet.2.1 15 = .ok (.istore 4, 2) := by decide +kernel
theorem dk_Md_cheapestSet_17 : decode mi_Md_cheapestSet.2.1 17 = .ok (.iconst 0, 1) := by decide +kernel
theorem dk_Md_cheapestSet_18 : decode mi_Md_cheapestSet.2.1 18 = .ok (.istore 5, 2) := by decide +kernel
theorem dk_Md_cheapestSet_20 : decode mi_Md_cheapestSet.2.1 20 = .ok (.iload 5, 2) := by decide +kernel
theorem dk_Md_cheapestSet_22 : decode mi_Md_cheapestSet.2.1 22 = .ok (.iconst 1, 1) := by decide +kernel
theorem dk_Md_cheapestSet_23 : decode mi_Md_cheapestSet.2.1 23 = .ok (.aload_n 0, 1) := by decide +kernel
theorem dk_Md_cheapestSet_24 : decode mi_Md_cheapestSet.2.1 24 = .ok (.getfield 90, 3) := by decide +kernel
theorem dk_Md_cheapestSet_27 : decode mi_Md_cheapestSet.2.1 27 = .ok (.ishl, 1) := by decide +kernel
theorem dk_Md_cheapestSet_28 : decode mi_Md_cheapestSet.2.1 28 = .ok (.if_icmp .ge 62, 3) := by decide +kernel
theorem dk_Md_cheapestSet_31 : decode mi_Md_cheapestSet.2.1 31 = .ok (.iload 5, 2) := by decide +kernel
theorem dk_Md_cheapestSet_33 : decode mi_Md_cheapestSet.2.1 33 = .ok (.iload_n 1, 1) := by decide +kernel
theorem dk_Md_cheapestSet_34 : decode mi_Md_cheapestSet.2.1 34 = .ok (.iconst (-1), 1) := by decide +kernel
theorem dk_Md_cheapestSet_35 : decode mi_Md_cheapestSet.2.1 35 = .ok (.ixor, 1) := by decide +kernel
theorem dk_Md_cheapestSet_36 : decode mi_Md_cheapestSet.2.1 36 = .ok (.iand, 1) := by decide +kernel
theorem dk_Md_cheapestSet_37 : decode mi_Md_cheapestSet.2.1 37 = .ok (.ifCond .ne 47, 3) := by decide +kernel
theorem dk_Md_cheapestSet_40 : decode mi_Md_cheapestSet.2.1 40 = .ok (.aload_n 0, 1) := by decide +kernel
theorem dk_Md_cheapestSet_41 : decode mi_Md_cheapestSet.2.1 41 = .ok (.iload 5, 2) := by decide +kernel
theorem dk_Md_cheapestSet_43 : decode mi_Md_cheapestSet.2.1 43 = .ok (.iload_n 2, 1) := by decide +kernel
theorem dk_Md_cheapestSet_44 : decode mi_Md_cheapestSet.2.1 44 = .ok (.ior, 1) := by decide +kernel
theorem dk_Md_cheapestSet_45 : decode mi_Md_cheapestSet.2.1 45 = .ok (.invokevirtual 186, 3) := by decide +kernel
theorem dk_Md_cheapestSet_48 : decode mi_Md_cheapestSet.2.1 48 = .ok (.ifCond .ne 6, 3) := by decide +kernel
theorem dk_Md_cheapestSet_51 : decode mi_Md_cheapestSet.2.1 51 = .ok (.goto 33, 3) := by decide +kernel
theorem dk_Md_cheapestSet_54 : decode mi_Md_cheapestSet.2.1 54 = .ok (.iload_n 3, 1) := by decide +kernel
theorem dk_Md_cheapestSet_55 : decode mi_Md_cheapestSet.2.1 55 = .ok (.iconst (-1), 1) := by decide +kernel
theorem dk_Md_cheapestSet_56 : decode mi_Md_cheapestSet.2.1 56 = .ok (.if_icmp .eq 17, 3) := by decide +kernel
theorem dk_Md_cheapestSet_59 : decode mi_Md_cheapestSet.2.1 59 = .ok (.aload_n 0, 1) := by decide +kernel
theorem dk_Md_cheapestSet_60 : decode mi_Md_cheapestSet.2.1 60 = .ok (.iload 5, 2) := by decide +kernel
theorem dk_Md_cheapestSet_62 : decode mi_Md_cheapestSet.2.1 62 = .ok (.invokevirtual 192, 3) := by decide +kernel
theorem dk_Md_cheapestSet_65 : decode mi_Md_cheapestSet.2.1 65 = .ok (.iload 4, 2) := by decide +kernel
theorem dk_Md_cheapestSet_67 : decode mi_Md_cheapestSet.2.1 67 = .ok (.if_icmp .lt 6, 3) := by decide +kernel
theorem dk_Md_cheapestSet_70 : decode mi_Md_cheapestSet.2.1 70 = .ok (.goto 14, 3) := by decide +kernel
theorem dk_Md_cheapestSet_73 : decode mi_Md_cheapestSet.2.1 73 = .ok (.iload 5, 2) := by decide +kernel
theorem dk_Md_cheapestSet_75 : decode mi_Md_cheapestSet.2.1 75 = .ok (.istore_n 3, 1) := by decide +kernel
theorem dk_Md_cheapestSet_76 : decode mi_Md_cheapestSet.2.1 76 = .ok (.aload_n 0, 1) := by decide +kernel
theorem dk_Md_cheapestSet_77 : decode mi_Md_cheapestSet.2.1 77 = .ok (.iload 5, 2) := by decide +kernel
theorem dk_Md_cheapestSet_79 : decode mi_Md_cheapestSet.2.1 79 = .ok (.invokevirtual 192, 3) := by decide +kernel
theorem dk_Md_cheapestSet_82 : decode mi_Md_cheapestSet.2.1 82 = .ok (.istore 4, 2) := by decide +kernel
theorem dk_Md_cheapestSet_84 : decode mi_Md_cheapestSet.2.1 84 = .ok (.iinc 5 1, 3) := by decide +kernel
theorem dk_Md_cheapestSet_87 : decode mi_Md_cheapestSet.2.1 87 = .ok (.goto (-67), 3) := by decide +kernel
theorem dk_Md_cheapestSet_90 : decode mi_Md_cheapestSet.2.1 90 = .ok (.iload_n 3, 1) := by decide +kernel
theorem dk_Md_cheapestSet_91 : decode mi_Md_cheapestSet.2.1 91 = .ok (.ireturn, 1) := by decide +kernel
def Md_cheapestSet_j73 (k_20 : Int32 → Int32 → Int32 → Int32 → Int32 → nm_St → Option (Int32 × nm_St)) (x1 : Int32) (x2 : Int32) (x5 : Int32) (σ : nm_St) : Option (Int32 × nm_St) :=
  ((Md_prices x5 σ).bind fun q8 =>
  k_20 x1 x2 x5 q8.1 (x5 + (1 : Int32)) q8.2)
set_option maxRecDepth 100000 in
set_option maxHeartbeats 4000000 in
theorem r_Md_cheapestSet_j73 (X : nm_X) (F : nm_F) (hF0 : 4 ≤ nm_d F) (k_20 : Int32 → Int32 → Int32 → Int32 → Int32 → nm_St → Option (Int32 × nm_St)) (hk_20 : ∀ (x1 : Int32) (x2 : Int32) (x3 : Int32) (x4 : Int32) (x5 : Int32) (σ : nm_St), Rn X mi_Md_cheapestSet F (nm_Qf X F nm_wI) [(0, .ref 70), (1, .int x1), (2, .int x2), (3, .int x3), (4, .int x4), (5, .int x5)] [] 20 σ (k_20 x1 x2 x3 x4 x5 σ)) (x1 : Int32) (x2 : Int32) (x5 : Int32) (σ : nm_St) : Rn X mi_Md_cheapestSet F (nm_Qf X F nm_wI) [(0, .ref 70), (1, .int x1), (2, .int x2), (5, .int x5)] [] 73 σ (Md_cheapestSet_j73 k_20 x1 x2 x5 σ) := by
  unfold Md_cheapestSet_j73
  refine rn_iload (pc := 73) dk_Md_cheapestSet_73 rfl ?_
  refine rn_istore_n (pc := 75) 3 dk_Md_cheapestSet_75 rfl rfl rfl ?_
  refine rn_aload_n (pc := 76) 0 dk_Md_cheapestSet_76 rfl rfl rfl ?_
  refine rn_iload (pc := 77) dk_Md_cheapestSet_77 rfl ?_
  refine cl_Md_192 (pc := 79) (As := [.int x5]) (st := []) rfl (ct_Md_prices X x5 σ) (Nat.le_trans (Nat.le_of_ble_eq_true rfl) hF0) rfl rfl (Nat.le_of_ble_eq_true rfl) dk_Md_cheapestSet_79 (fun q8 => ?_)
  refine rn_istore (pc := 82) dk_Md_cheapestSet_82 rfl rfl ?_
  refine rn_iinc (pc := 84) (1 : Int32) dk_Md_cheapestSet_84 cn_i_1 rfl rfl rfl ?_
  refine rn_goto (pc := 87) 20 dk_Md_cheapestSet_87 (by decide) ?_
  exact rn_sub (by rfl) (hk_20 x1 x2 x5 q8.1 (x5 + (1 : Int32)) q8.2)
def Md_cheapestSet_l20 (k_90 : Int32 → nm_St → Option (Int32 × nm_St)) : Nat → Int32 → Int32 → Int32 → Int32 → Int32 → nm_St → Option (Int32 × nm_St)
  | 0, _, _, _, _, _, _ => none
  | n + 1, x1, x2, x3, x4, x5, σ =>
    (if ((1 : Int32) <<< ((σ.1 70 0) &&& 31)) ≤ x5 then
      k_90 x3 σ
    else
      (if (x5 &&& (x1 ^^^ (-1 : Int32))) = 0 then
        ((Md_isMade (x5 ||| x2) σ).bind fun q5 =>
        (if q5.1 = 0 then
          (Md_cheapestSet_l20 k_90 n) x1 x2 x3 x4 (x5 + (1 : Int32)) q5.2
        else
          (if x3 = (-1 : Int32) then
            Md_cheapestSet_j73 (Md_cheapestSet_l20 k_90 n) x1 x2 x5 q5.2
          else
            ((Md_prices x5 q5.2).bind fun q9 =>
            (if q9.1 < x4 then
              Md_cheapestSet_j73 (Md_cheapestSet_l20 k_90 n) x1 x2 x5 q9.2
            else
              (Md_cheapestSet_l20 k_90 n) x1 x2 x3 x4 (x5 + (1 : Int32)) q9.2)))))
      else
        (Md_cheapestSet_l20 k_90 n) x1 x2 x3 x4 (x5 + (1 : Int32)) σ))
set_option maxRecDepth 100000 in
set_option maxHeartbeats 4000000 in
theorem r_Md_cheapestSet_l20 (X : nm_X) (F : nm_F) (hF0 : 4 ≤ nm_d F) (k_90 : Int32 → nm_St → Option (Int32 × nm_St)) (hk_90 : ∀ (x3 : Int32) (σ : nm_St), Rn X mi_Md_cheapestSet F (nm_Qf X F nm_wI) [(3, .int x3)] [] 90 σ (k_90 x3 σ)) : ∀ (n : Nat) (x1 : Int32) (x2 : Int32) (x3 : Int32) (x4 : Int32) (x5 : Int32) (σ : nm_St), Rn X mi_Md_cheapestSet F (nm_Qf X F nm_wI) [(0, .ref 70), (1, .int x1), (2, .int x2), (3, .int x3), (4, .int x4), (5, .int x5)] [] 20 σ (Md_cheapestSet_l20 k_90 n x1 x2 x3 x4 x5 σ) := by
  intro n
  induction n with
  | zero =>
    intro x1 x2 x3 x4 x5 σ
    exact rn_none
  | succ n ih =>
    intro x1 x2 x3 x4 x5 σ
    unfold Md_cheapestSet_l20
    refine rn_iload (pc := 20) dk_Md_cheapestSet_20 rfl ?_
    refine rn_iconst (pc := 22) (1 : Int32) dk_Md_cheapestSet_22 cn_i_1 ?_
    refine rn_aload_n (pc := 23) 0 dk_Md_cheapestSet_23 rfl rfl rfl ?_
    refine gf_Md_90 (pc := 24) rfl dk_Md_cheapestSet_24 ?_
    refine rn_ishl (pc := 27) dk_Md_cheapestSet_27 ?_
    refine rn_icmp_ge (pc := 28) 90 dk_Md_cheapestSet_28 (by decide) (fun c3 => ?_) (fun c3 => ?_)
    · exact rn_sub (by rfl) (hk_90 x3 σ)
    · refine rn_iload (pc := 31) dk_Md_cheapestSet_31 rfl ?_
      refine rn_iload_n (pc := 33) 1 dk_Md_cheapestSet_33 rfl rfl ?_
      refine rn_iconst (pc := 34) (-1 : Int32) dk_Md_cheapestSet_34 cn_i_m1 ?_
      refine rn_ixor (pc := 35) dk_Md_cheapestSet_35 ?_
      refine rn_iand (pc := 36) dk_Md_cheapestSet_36 ?_
      refine rn_if_ne (pc := 37) 84 dk_Md_cheapestSet_37 (by decide) (fun c4 => ?_) (fun c4 => ?_)
      · refine rn_iinc (pc := 84) (1 : Int32) dk_Md_cheapestSet_84 cn_i_1 rfl rfl rfl ?_
        refine rn_goto (pc := 87) 20 dk_Md_cheapestSet_87 (by decide) ?_
        exact rn_sub (by rfl) (ih x1 x2 x3 x4 (x5 + (1 : Int32)) σ)
      · refine rn_aload_n (pc := 40) 0 dk_Md_cheapestSet_40 rfl rfl rfl ?_
        refine rn_iload (pc := 41) dk_Md_cheapestSet_41 rfl ?_
        refine rn_iload_n (pc := 43) 2 dk_Md_cheapestSet_43 rfl rfl ?_
        refine rn_ior (pc := 44) dk_Md_cheapestSet_44 ?_
        refine cl_Md_186 (pc := 45) (As := [.int (x5 ||| x2)]) (st := []) rfl (ct_Md_isMade X (x5 ||| x2) σ) (Nat.le_trans (Nat.le_of_ble_eq_true rfl) hF0) rfl rfl (Nat.le_of_ble_eq_true rfl) dk_Md_cheapestSet_45 (fun q5 => ?_)
        refine rn_if_ne (pc := 48) 54 dk_Md_cheapestSet_48 (by decide) (fun c6 => ?_) (fun c6 => ?_)
        · refine rn_iload_n (pc := 54) 3 dk_Md_cheapestSet_54 rfl rfl ?_
          refine rn_iconst (pc := 55) (-1 : Int32) dk_Md_cheapestSet_55 cn_i_m1 ?_
          refine rn_icmp_eq (pc := 56) 73 dk_Md_cheapestSet_56 (by decide) (fun c7 => ?_) (fun c7 => ?_)
          · exact rn_sub (by rfl) (r_Md_cheapestSet_j73 X F hF0 _ ih x1 x2 x5 q5.2)
          · refine rn_aload_n (pc := 59) 0 dk_Md_cheapestSet_59 rfl rfl rfl ?_
            refine rn_iload (pc := 60) dk_Md_cheapestSet_60 rfl ?_
            refine cl_Md_192 (pc := 62) (As := [.int x5]) (st := []) rfl (ct_Md_prices X x5 q5.2) (Nat.le_trans (Nat.le_of_ble_eq_true rfl) hF0) rfl rfl (Nat.le_of_ble_eq_true rfl) dk_Md_cheapestSet_62 (fun q9 => ?_)
            refine rn_iload (pc := 65) dk_Md_cheapestSet_65 rfl ?_
            refine rn_icmp_lt (pc := 67) 73 dk_Md_cheapestSet_67 (by decide) (fun c10 => ?_) (fun c10 => ?_)
            · exact rn_sub (by rfl) (r_Md_cheapestSet_j73 X F hF0 _ ih x1 x2 x5 q9.2)
            · refine rn_goto (pc := 70) 84 dk_Md_cheapestSet_70 (by decide) ?_
              refine rn_iinc (pc := 84) (1 : Int32) dk_Md_cheapestSet_84 cn_i_1 rfl rfl rfl ?_
              refine rn_goto (pc := 87) 20 dk_Md_cheapestSet_87 (by decide) ?_
              exact rn_sub (by rfl) (ih x1 x2 x3 x4 (x5 + (1 : Int32)) q9.2)
        · refine rn_goto (pc := 51) 84 dk_Md_cheapestSet_51 (by decide) ?_
          refine rn_iinc (pc := 84) (1 : Int32) dk_Md_cheapestSet_84 cn_i_1 rfl rfl rfl ?_
          refine rn_goto (pc := 87) 20 dk_Md_cheapestSet_87 (by decide) ?_
          exact rn_sub (by rfl) (ih x1 x2 x3 x4 (x5 + (1 : Int32)) q5.2)
def Md_cheapestSet (σ : nm_St) : Option (Int32 × nm_St) :=
  ((Md_those (0 : Int32) σ).bind fun q1 =>
  ((Md_those (1 : Int32) q1.2).bind fun q2 =>
  Md_cheapestSet_l20 (fun (e12 : Int32) (s11 : nm_St) =>
    some (e12, s11)) 400 q1.1 q2.1 (-1 : Int32) (0 : Int32) (0 : Int32) q2.2))
set_option maxRecDepth 100000 in
set_option maxHeartbeats 4000000 in
theorem ct_Md_cheapestSet (X : nm_X) (σ : nm_St) : Ct X mi_Md_cheapestSet 4 nm_wI [.ref 70] σ (Md_cheapestSet σ) := by
  refine Ct.of (by decide +kernel) rfl (fun F hF0 => ?_)
  unfold Md_cheapestSet
  refine rn_aload_n (pc := 0) 0 dk_Md_cheapestSet_0 rfl rfl rfl ?_
  refine rn_iconst (pc := 1) (0 : Int32) dk_Md_cheapestSet_1 cn_i_0 ?_
  refine cl_Md_183 (pc := 2) (As := [.int (0 : Int32)]) (st := []) rfl (ct_Md_those X (0 : Int32) σ) (Nat.le_trans (Nat.le_of_ble_eq_true rfl) hF0) rfl rfl (Nat.le_of_ble_eq_true rfl) dk_Md_cheapestSet_2 (fun q1 => ?_)
  refine rn_istore_n (pc := 5) 1 dk_Md_cheapestSet_5 rfl rfl rfl ?_
  refine rn_aload_n (pc := 6) 0 dk_Md_cheapestSet_6 rfl rfl rfl ?_
  refine rn_iconst (pc := 7) (1 : Int32) dk_Md_cheapestSet_7 cn_i_1 ?_
  refine cl_Md_183 (pc := 8) (As := [.int (1 : Int32)]) (st := []) rfl (ct_Md_those X (1 : Int32) q1.2) (Nat.le_trans (Nat.le_of_ble_eq_true rfl) hF0) rfl rfl (Nat.le_of_ble_eq_true rfl) dk_Md_cheapestSet_8 (fun q2 => ?_)
  refine rn_istore_n (pc := 11) 2 dk_Md_cheapestSet_11 rfl rfl rfl ?_
  refine rn_iconst (pc := 12) (-1 : Int32) dk_Md_cheapestSet_12 cn_i_m1 ?_
  refine rn_istore_n (pc := 13) 3 dk_Md_cheapestSet_13 rfl rfl rfl ?_
  refine rn_iconst (pc := 14) (0 : Int32) dk_Md_cheapestSet_14 cn_i_0 ?_
  refine rn_istore (pc := 15) dk_Md_cheapestSet_15 rfl rfl ?_
  refine rn_iconst (pc := 17) (0 : Int32) dk_Md_cheapestSet_17 cn_i_0 ?_
  refine rn_istore (pc := 18) dk_Md_cheapestSet_18 rfl rfl ?_
  refine rn_sub (by rfl) (r_Md_cheapestSet_l20 X F hF0 _ (fun e12 s11 => ?_) 400 q1.1 q2.1 (-1 : Int32) (0 : Int32) (0 : Int32) q2.2)
  refine rn_iload_n (pc := 90) 3 dk_Md_cheapestSet_90 rfl rfl ?_
  exact rn_iret rfl dk_Md_cheapestSet_91
theorem dk_Md_noTen_0 : decode mi_Md_noTen.2.1 0 = .ok (.aload_n 0, 1) := by decide +kernel
theorem dk_Md_noTen_1 : decode mi_Md_noTen.2.1 1 = .ok (.getfield 22, 3) := by decide +kernel
theorem dk_Md_noTen_4 : decode mi_Md_noTen.2.1 4 = .ok (.iload_n 1, 1) := by decide +kernel
theorem dk_Md_noTen_5 : decode mi_Md_noTen.2.1 5 = .ok (.ineg, 1) := by decide +kernel
theorem dk_Md_noTen_6 : decode mi_Md_noTen.2.1 6 = .ok (.dup2, 1) := by decide +kernel
theorem dk_Md_noTen_7 : decode mi_Md_noTen.2.1 7 = .ok (.iaload, 1) := by decide +kernel
theorem dk_Md_noTen_8 : decode mi_Md_noTen.2.1 8 = .ok (.iconst 1, 1) := by decide +kernel
theorem dk_Md_noTen_9 : decode mi_Md_noTen.2.1 9 = .ok (.iadd, 1) := by decide +kernel
theorem dk_Md_noTen_10 : decode mi_Md_noTen.2.1 10 = .ok (.iastore, 1) := by decide +kernel
theorem dk_Md_noTen_11 : decode mi_Md_noTen.2.1 11 = .ok (.iload_n 1, 1) := by decide +kernel
theorem dk_Md_noTen_12 : decode mi_Md_noTen.2.1 12 = .ok (.bipush 10, 2) := by decide +kernel
theorem dk_Md_noTen_14 : decode mi_Md_noTen.2.1 14 = .ok (.isub, 1) := by decide +kernel
theorem dk_Md_noTen_15 : decode mi_Md_noTen.2.1 15 = .ok (.ireturn, 1) := by decide +kernel
def Md_noTen (p1 : Int32) (σ : nm_St) : Option (Int32 × nm_St) :=
  (nm_g (nm_in (-p1) 8) (
  (nm_g (nm_in (-p1) 8) (
  (nm_let (nm_pI σ 71 (-p1).toNatClampNeg ((σ.1 71 (-p1).toNatClampNeg) + (1 : Int32))) fun s3 =>
  some ((p1 - (10 : Int32)), s3))))))
set_option maxRecDepth 100000 in
set_option maxHeartbeats 4000000 in
theorem ct_Md_noTen (X : nm_X) (p1 : Int32) (σ : nm_St) : Ct X mi_Md_noTen 0 nm_wI [.ref 70, .int p1] σ (Md_noTen p1 σ) := by
  refine Ct.of (by decide +kernel) rfl (fun F hF0 => ?_)
  unfold Md_noTen
  refine rn_aload_n (pc := 0) 0 dk_Md_noTen_0 rfl rfl rfl ?_
  refine gf_Md_22 (pc := 1) rfl dk_Md_noTen_1 ?_
  refine rn_iload_n (pc := 4) 1 dk_Md_noTen_4 rfl rfl ?_
  refine rn_ineg (pc := 5) dk_Md_noTen_5 ?_
  refine rn_dup2 (pc := 6) dk_Md_noTen_6 rfl rfl ?_
  refine rn_iaload (pc := 7) rfl dk_Md_noTen_7 (fun g1 => ?_)
  refine rn_iconst (pc := 8) (1 : Int32) dk_Md_noTen_8 cn_i_1 ?_
  refine rn_iadd (pc := 9) dk_Md_noTen_9 ?_
  refine rn_iastore (pc := 10) rfl dk_Md_noTen_10 (fun g2 => ?_)
  refine rn_lets (fun s3 => ?_)
  refine rn_iload_n (pc := 11) 1 dk_Md_noTen_11 rfl rfl ?_
  refine rn_bipush (pc := 12) (10 : Int32) dk_Md_noTen_12 cn_b_10 ?_
  refine rn_isub (pc := 14) dk_Md_noTen_14 ?_
  exact rn_iret rfl dk_Md_noTen_15
theorem dk_Md_cheapest_0 : decode mi_Md_cheapest.2.1 0 = .ok (.iload_n 1, 1) := by decide +kernel
theorem dk_Md_cheapest_1 : decode mi_Md_cheapest.2.1 1 = .ok (.ifCond .lt 8, 3) := by decide +kernel
theorem dk_Md_cheapest_4 : decode mi_Md_cheapest.2.1 4 = .ok (.iload_n 1, 1) := by decide +kernel
theorem dk_Md_cheapest_5 : decode mi_Md_cheapest.2.1 5 = .ok (.iconst 2, 1) := by decide +kernel
theorem dk_Md_cheapest_6 : decode mi_Md_cheapest.2.1 6 = .ok (.if_icmp .le 10, 3) := by decide +kernel
theorem dk_Md_cheapest_9 : decode mi_Md_cheapest.2.1 9 = .ok (.aload_n 0, 1) := by decide +kernel
theorem dk_Md_cheapest_10 : decode mi_Md_cheapest.2.1 10 = .ok (.bipush (-5), 2) := by decide +kernel
theorem dk_Md_cheapest_12 : decode mi_Md_cheapest.2.1 12 = .ok (.invokevirtual 195, 3) := by decide +kernel
theorem dk_Md_cheapest_15 : decode mi_Md_cheapest.2.1 15 = .ok (.ireturn, 1) := by decide +kernel
theorem dk_Md_cheapest_16 : decode mi_Md_cheapest.2.1 16 = .ok (.aload_n 0, 1) := by decide +kernel
theorem dk_Md_cheapest_17 : decode mi_Md_cheapest.2.1 17 = .ok (.invokevirtual 198, 3) := by decide +kernel
theorem dk_Md_cheapest_20 : decode mi_Md_cheapest.2.1 20 = .ok (.istore_n 2, 1) := by decide +kernel
theorem dk_Md_cheapest_21 : decode mi_Md_cheapest.2.1 21 = .ok (.iload_n 1, 1) := by decide +kernel
theorem dk_Md_cheapest_22 : decode mi_Md_cheapest.2.1 22 = .ok (.iconst 2, 1) := by decide +kernel
theorem dk_Md_cheapest_23 : decode mi_Md_cheapest.2.1 23 = .ok (.if_icmp .ne 26, 3) := by decide +kernel
theorem dk_Md_cheapest_26 : decode mi_Md_cheapest.2.1 26 = .ok (.iload_n 2, 1) := by decide +kernel
theorem dk_Md_cheapest_27 : decode mi_Md_cheapest.2.1 27 = .ok (.iconst (-1), 1) := by decide +kernel
theorem dk_Md_cheapest_28 : decode mi_Md_cheapest.2.1 28 = .ok (.if_icmp .eq 19, 3) := by decide +kernel
theorem dk_Md_cheapest_31 : decode mi_Md_cheapest.2.1 31 = .ok (.aload_n 0, 1) := by decide +kernel
theorem dk_Md_cheapest_32 : decode mi_Md_cheapest.2.1 32 = .ok (.iload_n 2, 1) := by decide +kernel
theorem dk_Md_cheapest_33 : decode mi_Md_cheapest.2.1 33 = .ok (.invokevirtual 192, 3) := by decide +kernel
theorem dk_Md_cheapest_36 : decode mi_Md_cheapest.2.1 36 = .ok (.aload_n 0, 1) := by decide +kernel
theorem dk_Md_cheapest_37 : decode mi_Md_cheapest.2.1 37 = .ok (.getfield 13, 3) := by decide +kernel
theorem dk_Md_cheapest_40 : decode mi_Md_cheapest.2.1 40 = .ok (.if_icmp .gt 7, 3) := by decide +kernel
theorem dk_Md_cheapest_43 : decode mi_Md_cheapest.2.1 43 = .ok (.iconst 1, 1) := by decide +kernel
theorem dk_Md_cheapest_44 : decode mi_Md_cheapest.2.1 44 = .ok (.goto 4, 3) := by decide +kernel
theorem dk_Md_cheapest_47 : decode mi_Md_cheapest.2.1 47 = .ok (.iconst 0, 1) := by decide +kernel
theorem dk_Md_cheapest_48 : decode mi_Md_cheapest.2.1 48 = .ok (.ireturn, 1) := by decide +kernel
theorem dk_Md_cheapest_49 : decode mi_Md_cheapest.2.1 49 = .ok (.iload_n 1, 1) := by decide +kernel
theorem dk_Md_cheapest_50 : decode mi_Md_cheapest.2.1 50 = .ok (.ifCond .eq 8, 3) := by decide +kernel
theorem dk_Md_cheapest_53 : decode mi_Md_cheapest.2.1 53 = .ok (.iload_n 2, 1) := by decide +kernel
theorem dk_Md_cheapest_54 : decode mi_Md_cheapest.2.1 54 = .ok (.iconst (-1), 1) := by decide +kernel
theorem dk_Md_cheapest_55 : decode mi_Md_cheapest.2.1 55 = .ok (.if_icmp .ne 7, 3) := by decide +kernel
theorem dk_Md_cheapest_58 : decode mi_Md_cheapest.2.1 58 = .ok (.iload_n 2, 1) := by decide +kernel
theorem dk_Md_cheapest_59 : decode mi_Md_cheapest.2.1 59 = .ok (.goto 8, 3) := by decide +kernel
theorem dk_Md_cheapest_62 : decode mi_Md_cheapest.2.1 62 = .ok (.aload_n 0, 1) := by decide +kernel
theorem dk_Md_cheapest_63 : decode mi_Md_cheapest.2.1 63 = .ok (.iload_n 2, 1) := by decide +kernel
theorem dk_Md_cheapest_64 : decode mi_Md_cheapest.2.1 64 = .ok (.invokevirtual 192, 3) := by decide +kernel
theorem dk_Md_cheapest_67 : decode mi_Md_cheapest.2.1 67 = .ok (.ireturn, 1) := by decide +kernel
def Md_cheapest (p1 : Int32) (σ : nm_St) : Option (Int32 × nm_St) :=
  (if p1 < 0 then
    ((Md_noTen (-5 : Int32) σ).bind fun q2 =>
    some (q2.1, q2.2))
  else
    (if p1 ≤ (2 : Int32) then
      ((Md_cheapestSet σ).bind fun q4 =>
      (if p1 = (2 : Int32) then
        (if q4.1 = (-1 : Int32) then
          some ((0 : Int32), q4.2)
        else
          ((Md_prices q4.1 q4.2).bind fun q10 =>
          (if (q10.2.1 70 3) < q10.1 then
            some ((0 : Int32), q10.2)
          else
            some ((1 : Int32), q10.2))))
      else
        (if p1 = 0 then
          some (q4.1, q4.2)
        else
          (if q4.1 = (-1 : Int32) then
            some (q4.1, q4.2)
          else
            ((Md_prices q4.1 q4.2).bind fun q8 =>
            some (q8.1, q8.2))))))
    else
      ((Md_noTen (-5 : Int32) σ).bind fun q12 =>
      some (q12.1, q12.2))))
set_option maxRecDepth 100000 in
set_option maxHeartbeats 4000000 in
theorem ct_Md_cheapest (X : nm_X) (p1 : Int32) (σ : nm_St) : Ct X mi_Md_cheapest 5 nm_wI [.ref 70, .int p1] σ (Md_cheapest p1 σ) := by
  refine Ct.of (by decide +kernel) rfl (fun F hF0 => ?_)
  unfold Md_cheapest
  refine rn_iload_n (pc := 0) 1 dk_Md_cheapest_0 rfl rfl ?_
  refine rn_if_lt (pc := 1) 9 dk_Md_cheapest_1 (by decide) (fun c1 => ?_) (fun c1 => ?_)
  · refine rn_aload_n (pc := 9) 0 dk_Md_cheapest_9 rfl rfl rfl ?_
    refine rn_bipush (pc := 10) (-5 : Int32) dk_Md_cheapest_10 cn_b_m5 ?_
    refine cl_Md_195 (pc := 12) (As := [.int (-5 : Int32)]) (st := []) rfl (ct_Md_noTen X (-5 : Int32) σ) (Nat.le_trans (Nat.le_of_ble_eq_true rfl) hF0) rfl rfl (Nat.le_of_ble_eq_true rfl) dk_Md_cheapest_12 (fun q2 => ?_)
    exact rn_iret rfl dk_Md_cheapest_15
  · refine rn_iload_n (pc := 4) 1 dk_Md_cheapest_4 rfl rfl ?_
    refine rn_iconst (pc := 5) (2 : Int32) dk_Md_cheapest_5 cn_i_2 ?_
    refine rn_icmp_le (pc := 6) 16 dk_Md_cheapest_6 (by decide) (fun c3 => ?_) (fun c3 => ?_)
    · refine rn_aload_n (pc := 16) 0 dk_Md_cheapest_16 rfl rfl rfl ?_
      refine cl_Md_198 (pc := 17) (As := []) (st := []) rfl (ct_Md_cheapestSet X σ) (Nat.le_trans (Nat.le_of_ble_eq_true rfl) hF0) rfl rfl (Nat.le_of_ble_eq_true rfl) dk_Md_cheapest_17 (fun q4 => ?_)
      refine rn_istore_n (pc := 20) 2 dk_Md_cheapest_20 rfl rfl rfl ?_
      refine rn_iload_n (pc := 21) 1 dk_Md_cheapest_21 rfl rfl ?_
      refine rn_iconst (pc := 22) (2 : Int32) dk_Md_cheapest_22 cn_i_2 ?_
      refine rn_icmp_ne (pc := 23) 49 dk_Md_cheapest_23 (by decide) (fun c5 => ?_) (fun c5 => ?_)
      · refine rn_iload_n (pc := 49) 1 dk_Md_cheapest_49 rfl rfl ?_
        refine rn_if_eq (pc := 50) 58 dk_Md_cheapest_50 (by decide) (fun c6 => ?_) (fun c6 => ?_)
        · refine rn_iload_n (pc := 58) 2 dk_Md_cheapest_58 rfl rfl ?_
          refine rn_goto (pc := 59) 67 dk_Md_cheapest_59 (by decide) ?_
          exact rn_iret rfl dk_Md_cheapest_67
        · refine rn_iload_n (pc := 53) 2 dk_Md_cheapest_53 rfl rfl ?_
          refine rn_iconst (pc := 54) (-1 : Int32) dk_Md_cheapest_54 cn_i_m1 ?_
          refine rn_icmp_ne (pc := 55) 62 dk_Md_cheapest_55 (by decide) (fun c7 => ?_) (fun c7 => ?_)
          · refine rn_aload_n (pc := 62) 0 dk_Md_cheapest_62 rfl rfl rfl ?_
            refine rn_iload_n (pc := 63) 2 dk_Md_cheapest_63 rfl rfl ?_
            refine cl_Md_192 (pc := 64) (As := [.int q4.1]) (st := []) rfl (ct_Md_prices X q4.1 q4.2) (Nat.le_trans (Nat.le_of_ble_eq_true rfl) hF0) rfl rfl (Nat.le_of_ble_eq_true rfl) dk_Md_cheapest_64 (fun q8 => ?_)
            exact rn_iret rfl dk_Md_cheapest_67
          · refine rn_iload_n (pc := 58) 2 dk_Md_cheapest_58 rfl rfl ?_
            refine rn_goto (pc := 59) 67 dk_Md_cheapest_59 (by decide) ?_
            exact rn_iret rfl dk_Md_cheapest_67
      · refine rn_iload_n (pc := 26) 2 dk_Md_cheapest_26 rfl rfl ?_
        refine rn_iconst (pc := 27) (-1 : Int32) dk_Md_cheapest_27 cn_i_m1 ?_
        refine rn_icmp_eq (pc := 28) 47 dk_Md_cheapest_28 (by decide) (fun c9 => ?_) (fun c9 => ?_)
        · refine rn_iconst (pc := 47) (0 : Int32) dk_Md_cheapest_47 cn_i_0 ?_
          exact rn_iret rfl dk_Md_cheapest_48
        · refine rn_aload_n (pc := 31) 0 dk_Md_cheapest_31 rfl rfl rfl ?_
          refine rn_iload_n (pc := 32) 2 dk_Md_cheapest_32 rfl rfl ?_
          refine cl_Md_192 (pc := 33) (As := [.int q4.1]) (st := []) rfl (ct_Md_prices X q4.1 q4.2) (Nat.le_trans (Nat.le_of_ble_eq_true rfl) hF0) rfl rfl (Nat.le_of_ble_eq_true rfl) dk_Md_cheapest_33 (fun q10 => ?_)
          refine rn_aload_n (pc := 36) 0 dk_Md_cheapest_36 rfl rfl rfl ?_
          refine gf_Md_13 (pc := 37) rfl dk_Md_cheapest_37 ?_
          refine rn_icmp_gt (pc := 40) 47 dk_Md_cheapest_40 (by decide) (fun c11 => ?_) (fun c11 => ?_)
          · refine rn_iconst (pc := 47) (0 : Int32) dk_Md_cheapest_47 cn_i_0 ?_
            exact rn_iret rfl dk_Md_cheapest_48
          · refine rn_iconst (pc := 43) (1 : Int32) dk_Md_cheapest_43 cn_i_1 ?_
            refine rn_goto (pc := 44) 48 dk_Md_cheapest_44 (by decide) ?_
            exact rn_iret rfl dk_Md_cheapest_48
    · refine rn_aload_n (pc := 9) 0 dk_Md_cheapest_9 rfl rfl rfl ?_
      refine rn_bipush (pc := 10) (-5 : Int32) dk_Md_cheapest_10 cn_b_m5 ?_
      refine cl_Md_195 (pc := 12) (As := [.int (-5 : Int32)]) (st := []) rfl (ct_Md_noTen X (-5 : Int32) σ) (Nat.le_trans (Nat.le_of_ble_eq_true rfl) hF0) rfl rfl (Nat.le_of_ble_eq_true rfl) dk_Md_cheapest_12 (fun q12 => ?_)
      exact rn_iret rfl dk_Md_cheapest_15
theorem dk_Md_living_0 : decode mi_Md_living.2.1 0 = .ok (.iconst 1, 1) := by decide +kernel
theorem dk_Md_living_1 : decode mi_Md_living.2.1 1 = .ok (.aload_n 0, 1) := by decide +kernel
theorem dk_Md_living_2 : decode mi_Md_living.2.1 2 = .ok (.getfield 90, 3) := by decide +kernel
theorem dk_Md_living_5 : decode mi_Md_living.2.1 5 = .ok (.ishl, 1) := by decide +kernel
theorem dk_Md_living_6 : decode mi_Md_living.2.1 6 = .ok (.iconst 1, 1) := by decide +kernel
theorem dk_Md_living_7 : decode mi_Md_living.2.1 7 = .ok (.isub, 1) := by decide +kernel
theorem dk_Md_living_8 : decode mi_Md_living.2.1 8 = .ok (.aload_n 0, 1) := by decide +kernel
theorem dk_Md_living_9 : decode mi_Md_living.2.1 9 = .ok (.iconst 3, 1) := by decide +kernel
theorem dk_Md_living_10 : decode mi_Md_living.2.1 10 = .ok (.invokevirtual 183, 3) := by decide +kernel
theorem dk_Md_living_13 : decode mi_Md_living.2.1 13 = .ok (.iconst (-1), 1) := by decide +kernel
theorem dk_Md_living_14 : decode mi_Md_living.2.1 14 = .ok (.ixor, 1) := by decide +kernel
theorem dk_Md_living_15 : decode mi_Md_living.2.1 15 = .ok (.iand, 1) := by decide +kernel
theorem dk_Md_living_16 : decode mi_Md_living.2.1 16 = .ok (.ireturn, 1) := by decide +kernel
def Md_living (σ : nm_St) : Option (Int32 × nm_St) :=
  ((Md_those (3 : Int32) σ).bind fun q1 =>
  some (((((1 : Int32) <<< ((σ.1 70 0) &&& 31)) - (1 : Int32)) &&& (q1.1 ^^^ (-1 : Int32))), q1.2))
set_option maxRecDepth 100000 in
set_option maxHeartbeats 4000000 in
theorem ct_Md_living (X : nm_X) (σ : nm_St) : Ct X mi_Md_living 1 nm_wI [.ref 70] σ (Md_living σ) := by
  refine Ct.of (by decide +kernel) rfl (fun F hF0 => ?_)
  unfold Md_living
  refine rn_iconst (pc := 0) (1 : Int32) dk_Md_living_0 cn_i_1 ?_
  refine rn_aload_n (pc := 1) 0 dk_Md_living_1 rfl rfl rfl ?_
  refine gf_Md_90 (pc := 2) rfl dk_Md_living_2 ?_
  refine rn_ishl (pc := 5) dk_Md_living_5 ?_
  refine rn_iconst (pc := 6) (1 : Int32) dk_Md_living_6 cn_i_1 ?_
  refine rn_isub (pc := 7) dk_Md_living_7 ?_
  refine rn_aload_n (pc := 8) 0 dk_Md_living_8 rfl rfl rfl ?_
  refine rn_iconst (pc := 9) (3 : Int32) dk_Md_living_9 cn_i_3 ?_
  refine cl_Md_183 (pc := 10) (As := [.int (3 : Int32)]) (st := [.int (((1 : Int32) <<< ((σ.1 70 0) &&& 31)) - (1 : Int32))]) rfl (ct_Md_those X (3 : Int32) σ) (Nat.le_trans (Nat.le_of_ble_eq_true rfl) hF0) rfl rfl (Nat.le_of_ble_eq_true rfl) dk_Md_living_10 (fun q1 => ?_)
  refine rn_iconst (pc := 13) (-1 : Int32) dk_Md_living_13 cn_i_m1 ?_
  refine rn_ixor (pc := 14) dk_Md_living_14 ?_
  refine rn_iand (pc := 15) dk_Md_living_15 ?_
  exact rn_iret rfl dk_Md_living_16
theorem dk_Md_owners_0 : decode mi_Md_owners.2.1 0 = .ok (.iconst 0, 1) := by decide +kernel
theorem dk_Md_owners_1 : decode mi_Md_owners.2.1 1 = .ok (.istore_n 3, 1) := by decide +kernel
theorem dk_Md_owners_2 : decode mi_Md_owners.2.1 2 = .ok (.iconst 0, 1) := by decide +kernel
theorem dk_Md_owners_3 : decode mi_Md_owners.2.1 3 = .ok (.istore 4, 2) := by decide +kernel
theorem dk_Md_owners_5 : decode mi_Md_owners.2.1 5 = .ok (.iload 4, 2) := by decide +kernel
theorem dk_Md_owners_7 : decode mi_Md_owners.2.1 7 = .ok (.aload_n 0, 1) := by decide +kernel
theorem dk_Md_owners_8 : decode mi_Md_owners.2.1 8 = .ok (.getfield 90, 3) := by decide +kernel
theorem dk_Md_owners_11 : decode mi_Md_owners.2.1 11 = .ok (.if_icmp .ge 37, 3) := by decide +kernel
theorem dk_Md_owners_14 : decode mi_Md_owners.2.1 14 = .ok (.aload_n 0, 1) := by decide +kernel
theorem dk_Md_owners_15 : decode mi_Md_owners.2.1 15 = .ok (.iload_n 2, 1) := by decide +kernel
theorem dk_Md_owners_16 : decode mi_Md_owners.2.1 16 = .ok (.iload 4, 2) := by decide +kernel
theorem dk_Md_owners_18 : decode mi_Md_owners.2.1 18 = .ok (.invokevirtual 174, 3) := by decide +kernel
theorem dk_Md_owners_21 : decode mi_Md_owners.2.1 21 = .ok (.ifCond .eq 21, 3) := by decide +kernel
theorem dk_Md_owners_24 : decode mi_Md_owners.2.1 24 = .ok (.aload_n 0, 1) := by decide +kernel
theorem dk_Md_owners_25 : decode mi_Md_owners.2.1 25 = .ok (.aload_n 0, 1) := by decide +kernel
theorem dk_Md_owners_26 : decode mi_Md_owners.2.1 26 = .ok (.getfield 35, 3) := by decide +kernel
theorem dk_Md_owners_29 : decode mi_Md_owners.2.1 29 = .ok (.iload 4, 2) := by decide +kernel
theorem dk_Md_owners_31 : decode mi_Md_owners.2.1 31 = .ok (.iaload, 1) := by decide +kernel
theorem dk_Md_owners_32 : decode mi_Md_owners.2.1 32 = .ok (.iload_n 1, 1) := by decide +kernel
theorem dk_Md_owners_33 : decode mi_Md_owners.2.1 33 = .ok (.invokevirtual 174, 3) := by decide +kernel
theorem dk_Md_owners_36 : decode mi_Md_owners.2.1 36 = .ok (.ifCond .eq 6, 3) := by decide +kernel
theorem dk_Md_owners_39 : decode mi_Md_owners.2.1 39 = .ok (.iinc 3 1, 3) := by decide +kernel
theorem dk_Md_owners_42 : decode mi_Md_owners.2.1 42 = .ok (.iinc 4 1, 3) := by decide +kernel
theorem dk_Md_owners_45 : decode mi_Md_owners.2.1 45 = .ok (.goto (-40), 3) := by decide +kernel
theorem dk_Md_owners_48 : decode mi_Md_owners.2.1 48 = .ok (.iload_n 3, 1) := by decide +kernel
theorem dk_Md_owners_49 : decode mi_Md_owners.2.1 49 = .ok (.ireturn, 1) := by decide +kernel
def Md_owners_l5 (k_48 : Int32 → nm_St → Option (Int32 × nm_St)) : Nat → Int32 → Int32 → Int32 → Int32 → nm_St → Option (Int32 × nm_St)
  | 0, _, _, _, _, _ => none
  | n + 1, x1, x2, x3, x4, σ =>
    (if (σ.1 70 0) ≤ x4 then
      k_48 x3 σ
    else
      ((Md_has x2 x4 σ).bind fun q2 =>
      (if q2.1 = 0 then
        (Md_owners_l5 k_48 n) x1 x2 x3 (x4 + (1 : Int32)) q2.2
      else
        (nm_g (nm_in x4 8) (
        ((Md_has (q2.2.1 75 x4.toNatClampNeg) x1 q2.2).bind fun q5 =>
        (if q5.1 = 0 then
          (Md_owners_l5 k_48 n) x1 x2 x3 (x4 + (1 : Int32)) q5.2
        else
          (Md_owners_l5 k_48 n) x1 x2 (x3 + (1 : Int32)) (x4 + (1 : Int32)) q5.2)))))))
set_option maxRecDepth 100000 in
set_option maxHeartbeats 4000000 in
theorem r_Md_owners_l5 (X : nm_X) (F : nm_F) (hF0 : 1 ≤ nm_d F) (k_48 : Int32 → nm_St → Option (Int32 × nm_St)) (hk_48 : ∀ (x3 : Int32) (σ : nm_St), Rn X mi_Md_owners F (nm_Qf X F nm_wI) [(3, .int x3)] [] 48 σ (k_48 x3 σ)) : ∀ (n : Nat) (x1 : Int32) (x2 : Int32) (x3 : Int32) (x4 : Int32) (σ : nm_St), Rn X mi_Md_owners F (nm_Qf X F nm_wI) [(0, .ref 70), (1, .int x1), (2, .int x2), (3, .int x3), (4, .int x4)] [] 5 σ (Md_owners_l5 k_48 n x1 x2 x3 x4 σ) := by
  intro n
  induction n with
  | zero =>
    intro x1 x2 x3 x4 σ
    exact rn_none
  | succ n ih =>
    intro x1 x2 x3 x4 σ
    unfold Md_owners_l5
    refine rn_iload (pc := 5) dk_Md_owners_5 rfl ?_
    refine rn_aload_n (pc := 7) 0 dk_Md_owners_7 rfl rfl rfl ?_
    refine gf_Md_90 (pc := 8) rfl dk_Md_owners_8 ?_
    refine rn_icmp_ge (pc := 11) 48 dk_Md_owners_11 (by decide) (fun c1 => ?_) (fun c1 => ?_)
    · exact rn_sub (by rfl) (hk_48 x3 σ)
    · refine rn_aload_n (pc := 14) 0 dk_Md_owners_14 rfl rfl rfl ?_
      refine rn_iload_n (pc := 15) 2 dk_Md_owners_15 rfl rfl ?_
      refine rn_iload (pc := 16) dk_Md_owners_16 rfl ?_
      refine cl_Md_174 (pc := 18) (As := [.int x2, .int x4]) (st := []) rfl (ct_Md_has X x2 x4 σ) (Nat.le_trans (Nat.le_of_ble_eq_true rfl) hF0) rfl rfl (Nat.le_of_ble_eq_true rfl) dk_Md_owners_18 (fun q2 => ?_)
      refine rn_if_eq (pc := 21) 42 dk_Md_owners_21 (by decide) (fun c3 => ?_) (fun c3 => ?_)
      · refine rn_iinc (pc := 42) (1 : Int32) dk_Md_owners_42 cn_i_1 rfl rfl rfl ?_
        refine rn_goto (pc := 45) 5 dk_Md_owners_45 (by decide) ?_
        exact rn_sub (by rfl) (ih x1 x2 x3 (x4 + (1 : Int32)) q2.2)
      · refine rn_aload_n (pc := 24) 0 dk_Md_owners_24 rfl rfl rfl ?_
        refine rn_aload_n (pc := 25) 0 dk_Md_owners_25 rfl rfl rfl ?_
        refine gf_Md_35 (pc := 26) rfl dk_Md_owners_26 ?_
        refine rn_iload (pc := 29) dk_Md_owners_29 rfl ?_
        refine rn_iaload (pc := 31) rfl dk_Md_owners_31 (fun g4 => ?_)
        refine rn_iload_n (pc := 32) 1 dk_Md_owners_32 rfl rfl ?_
        refine cl_Md_174 (pc := 33) (As := [.int (q2.2.1 75 x4.toNatClampNeg), .int x1]) (st := []) rfl (ct_Md_has X (q2.2.1 75 x4.toNatClampNeg) x1 q2.2) (Nat.le_trans (Nat.le_of_ble_eq_true rfl) hF0) rfl rfl (Nat.le_of_ble_eq_true rfl) dk_Md_owners_33 (fun q5 => ?_)
        refine rn_if_eq (pc := 36) 42 dk_Md_owners_36 (by decide) (fun c6 => ?_) (fun c6 => ?_)
        · refine rn_iinc (pc := 42) (1 : Int32) dk_Md_owners_42 cn_i_1 rfl rfl rfl ?_
          refine rn_goto (pc := 45) 5 dk_Md_owners_45 (by decide) ?_
          exact rn_sub (by rfl) (ih x1 x2 x3 (x4 + (1 : Int32)) q5.2)
        · refine rn_iinc (pc := 39) (1 : Int32) dk_Md_owners_39 cn_i_1 rfl rfl rfl ?_
          refine rn_iinc (pc := 42) (1 : Int32) dk_Md_owners_42 cn_i_1 rfl rfl rfl ?_
          refine rn_goto (pc := 45) 5 dk_Md_owners_45 (by decide) ?_
          exact rn_sub (by rfl) (ih x1 x2 (x3 + (1 : Int32)) (x4 + (1 : Int32)) q5.2)
def Md_owners (p1 : Int32) (p2 : Int32) (σ : nm_St) : Option (Int32 × nm_St) :=
  Md_owners_l5 (fun (e8 : Int32) (s7 : nm_St) =>
    some (e8, s7)) 400 p1 p2 (0 : Int32) (0 : Int32) σ
set_option maxRecDepth 100000 in
set_option maxHeartbeats 4000000 in
theorem ct_Md_owners (X : nm_X) (p1 : Int32) (p2 : Int32) (σ : nm_St) : Ct X mi_Md_owners 1 nm_wI [.ref 70, .int p1, .int p2] σ (Md_owners p1 p2 σ) := by
  refine Ct.of (by decide +kernel) rfl (fun F hF0 => ?_)
  unfold Md_owners
  refine rn_iconst (pc := 0) (0 : Int32) dk_Md_owners_0 cn_i_0 ?_
  refine rn_istore_n (pc := 1) 3 dk_Md_owners_1 rfl rfl rfl ?_
  refine rn_iconst (pc := 2) (0 : Int32) dk_Md_owners_2 cn_i_0 ?_
  refine rn_istore (pc := 3) dk_Md_owners_3 rfl rfl ?_
  refine rn_sub (by rfl) (r_Md_owners_l5 X F hF0 _ (fun e8 s7 => ?_) 400 p1 p2 (0 : Int32) (0 : Int32) σ)
  refine rn_iload_n (pc := 48) 3 dk_Md_owners_48 rfl rfl ?_
  exact rn_iret rfl dk_Md_owners_49
theorem dk_Md_alone_0 : decode mi_Md_alone.2.1 0 = .ok (.iload_n 1, 1) := by decide +kernel
theorem dk_Md_alone_1 : decode mi_Md_alone.2.1 1 = .ok (.ifCond .lt 8, 3) := by decide +kernel
theorem dk_Md_alone_4 : decode mi_Md_alone.2.1 4 = .ok (.iload_n 1, 1) := by decide +kernel
theorem dk_Md_alone_5 : decode mi_Md_alone.2.1 5 = .ok (.iconst 1, 1) := by decide +kernel
theorem dk_Md_alone_6 : decode mi_Md_alone.2.1 6 = .ok (.if_icmp .le 10, 3) := by decide +kernel
theorem dk_Md_alone_9 : decode mi_Md_alone.2.1 9 = .ok (.aload_n 0, 1) := by decide +kernel
theorem dk_Md_alone_10 : decode mi_Md_alone.2.1 10 = .ok (.bipush (-5), 2) := by decide +kernel
theorem dk_Md_alone_12 : decode mi_Md_alone.2.1 12 = .ok (.invokevirtual 195, 3) := by decide +kernel
theorem dk_Md_alone_15 : decode mi_Md_alone.2.1 15 = .ok (.ireturn, 1) := by decide +kernel
theorem dk_Md_alone_16 : decode mi_Md_alone.2.1 16 = .ok (.iconst 0, 1) := by decide +kernel
theorem dk_Md_alone_17 : decode mi_Md_alone.2.1 17 = .ok (.istore_n 2, 1) := by decide +kernel
theorem dk_Md_alone_18 : decode mi_Md_alone.2.1 18 = .ok (.aload_n 0, 1) := by decide +kernel
theorem dk_Md_alone_19 : decode mi_Md_alone.2.1 19 = .ok (.invokevirtual 201, 3) := by decide +kernel
theorem dk_Md_alone_22 : decode mi_Md_alone.2.1 22 = .ok (.istore_n 3, 1) := by decide +kernel
theorem dk_Md_alone_23 : decode mi_Md_alone.2.1 23 = .ok (.iconst 0, 1) := by decide +kernel
theorem dk_Md_alone_24 : decode mi_Md_alone.2.1 24 = .ok (.istore 4, 2) := by decide +kernel
theorem dk_Md_alone_26 : decode mi_Md_alone.2.1 26 = .ok (.iload 4, 2) := by decide +kernel
theorem dk_Md_alone_28 : decode mi_Md_alone.2.1 28 = .ok (.aload_n 0, 1) := by decide +kernel
theorem dk_Md_alone_29 : decode mi_Md_alone.2.1 29 = .ok (.getfield 7, 3) := by decide +kernel
theorem dk_Md_alone_32 : decode mi_Md_alone.2.1 32 = .ok (.if_icmp .ge 27, 3) := by decide +kernel
theorem dk_Md_alone_35 : decode mi_Md_alone.2.1 35 = .ok (.aload_n 0, 1) := by decide +kernel
theorem dk_Md_alone_36 : decode mi_Md_alone.2.1 36 = .ok (.iload 4, 2) := by decide +kernel
theorem dk_Md_alone_38 : decode mi_Md_alone.2.1 38 = .ok (.iload_n 3, 1) := by decide +kernel
theorem dk_Md_alone_39 : decode mi_Md_alone.2.1 39 = .ok (.invokevirtual 204, 3) := by decide +kernel
theorem dk_Md_alone_42 : decode mi_Md_alone.2.1 42 = .ok (.iconst 1, 1) := by decide +kernel
theorem dk_Md_alone_43 : decode mi_Md_alone.2.1 43 = .ok (.if_icmp .ne 10, 3) := by decide +kernel
theorem dk_Md_alone_46 : decode mi_Md_alone.2.1 46 = .ok (.iload_n 2, 1) := by decide +kernel
theorem dk_Md_alone_47 : decode mi_Md_alone.2.1 47 = .ok (.iconst 1, 1) := by decide +kernel
theorem dk_Md_alone_48 : decode mi_Md_alone.2.1 48 = .ok (.iload 4, 2) := by decide +kernel
theorem dk_Md_alone_50 : decode mi_Md_alone.2.1 50 = .ok (.ishl, 1) := by decide +kernel
theorem dk_Md_alone_51 : decode mi_Md_alone.2.1 51 = .ok (.ior, 1) := by decide +kernel
theorem dk_Md_alone_52 : decode mi_Md_alone.2.1 52 = .ok (.istore_n 2, 1) := by decide +kernel
theorem dk_Md_alone_53 : decode mi_Md_alone.2.1 53 = .ok (.iinc 4 1, 3) := by decide +kernel
theorem dk_Md_alone_56 : decode mi_Md_alone.2.1 56 = .ok (.goto (-30), 3) := by decide +kernel
theorem dk_Md_alone_59 : decode mi_Md_alone.2.1 59 = .ok (.iload_n 1, 1) := by decide +kernel
theorem dk_Md_alone_60 : decode mi_Md_alone.2.1 60 = .ok (.ifCond .ne 5, 3) := by decide +kernel
theorem dk_Md_alone_63 : decode mi_Md_alone.2.1 63 = .ok (.iload_n 2, 1) := by decide +kernel
theorem dk_Md_alone_64 : decode mi_Md_alone.2.1 64 = .ok (.ireturn, 1) := by decide +kernel
theorem dk_Md_alone_65 : decode mi_Md_alone.2.1 65 = .ok (.iconst (-1), 1) := by decide +kernel
theorem dk_Md_alone_66 : decode mi_Md_alone.2.1 66 = .ok (.istore 4, 2) := by decide +kernel
theorem dk_Md_alone_68 : decode mi_Md_alone.2.1 68 = .ok (.iconst 0, 1) := by decide +kernel
theorem dk_Md_alone_69 : decode mi_Md_alone.2.1 69 = .ok (.istore 5, 2) := by decide +kernel
theorem dk_Md_alone_71 : decode mi_Md_alone.2.1 71 = .ok (.iload 5, 2) := by decide +kernel
theorem dk_Md_alone_73 : decode mi_Md_alone.2.1 73 = .ok (.aload_n 0, 1) := by decide +kernel
theorem dk_Md_alone_74 : decode mi_Md_alone.2.1 74 = .ok (.getfield 90, 3) := by decide +kernel
theorem dk_Md_alone_77 : decode mi_Md_alone.2.1 77 = .ok (.if_icmp .ge 62, 3) := by decide +kernel
theorem dk_Md_alone_80 : decode mi_Md_alone.2.1 80 = .ok (.iload_n 2, 1) := by decide +kernel
theorem dk_Md_alone_81 : decode mi_Md_alone.2.1 81 = .ok (.ifCond .eq 58, 3) := by decide +kernel
theorem dk_Md_alone_84 : decode mi_Md_alone.2.1 84 = .ok (.aload_n 0, 1) := by decide +kernel
theorem dk_Md_alone_85 : decode mi_Md_alone.2.1 85 = .ok (.iload_n 3, 1) := by decide +kernel
theorem dk_Md_alone_86 : decode mi_Md_alone.2.1 86 = .ok (.iload 5, 2) := by decide +kernel
theorem dk_Md_alone_88 : decode mi_Md_alone.2.1 88 = .ok (.invokevirtual 174, 3) := by decide +kernel
theorem dk_Md_alone_91 : decode mi_Md_alone.2.1 91 = .ok (.ifCond .eq 42, 3) := by decide +kernel
theorem dk_Md_alone_94 : decode mi_Md_alone.2.1 94 = .ok (.iload 4, 2) := by decide +kernel
theorem dk_Md_alone_96 : decode mi_Md_alone.2.1 96 = .ok (.iconst (-1), 1) := by decide +kernel
theorem dk_Md_alone_97 : decode mi_Md_alone.2.1 97 = .ok (.if_icmp .eq 32, 3) := by decide +kernel
theorem dk_Md_alone_100 : decode mi_Md_alone.2.1 100 = .ok (.aload_n 0, 1) := by decide +kernel
theorem dk_Md_alone_101 : decode mi_Md_alone.2.1 101 = .ok (.aload_n 0, 1) := by decide +kernel
theorem dk_Md_alone_102 : decode mi_Md_alone.2.1 102 = .ok (.getfield 35, 3) := by decide +kernel
theorem dk_Md_alone_105 : decode mi_Md_alone.2.1 105 = .ok (.iload 5, 2) := by decide +kernel
theorem dk_Md_alone_107 : decode mi_Md_alone.2.1 107 = .ok (.iaload, 1) := by decide +kernel
theorem dk_Md_alone_108 : decode mi_Md_alone.2.1 108 = .ok (.iload_n 2, 1) := by decide +kernel
theorem dk_Md_alone_109 : decode mi_Md_alone.2.1 109 = .ok (.iand, 1) := by decide +kernel
theorem dk_Md_alone_110 : decode mi_Md_alone.2.1 110 = .ok (.invokevirtual 189, 3) := by decide +kernel
theorem dk_Md_alone_113 : decode mi_Md_alone.2.1 113 = .ok (.aload_n 0, 1) := by decide +kernel
theorem dk_Md_alone_114 : decode mi_Md_alone.2.1 114 = .ok (.aload_n 0, 1) := by decide +kernel
theorem dk_Md_alone_115 : decode mi_Md_alone.2.1 115 = .ok (.getfield 35, 3) := by decide +kernel
theorem dk_Md_alone_118 : decode mi_Md_alone.2.1 118 = .ok (.iload 4, 2) := by decide +kernel
theorem dk_Md_alone_120 : decode mi_Md_alone.2.1 120 = .ok (.iaload, 1) := by decide +kernel
theorem dk_Md_alone_121 : decode mi_Md_alone.2.1 121 = .ok (.iload_n 2, 1) := by decide +kernel
theorem dk_Md_alone_122 : decode mi_Md_alone.2.1 122 = .ok (.iand, 1) := by decide +kernel
theorem dk_Md_alone_123 : decode mi_Md_alone.2.1 123 = .ok (.invokevirtual 189, 3) := by decide +kernel
theorem dk_Md_alone_126 : decode mi_Md_alone.2.1 126 = .ok (.if_icmp .le 7, 3) := by decide +kernel
theorem dk_Md_alone_129 : decode mi_Md_alone.2.1 129 = .ok (.iload 5, 2) := by decide +kernel
theorem dk_Md_alone_131 : decode mi_Md_alone.2.1 131 = .ok (.istore 4, 2) := by decide +kernel
theorem dk_Md_alone_133 : decode mi_Md_alone.2.1 133 = .ok (.iinc 5 1, 3) := by decide +kernel
theorem dk_Md_alone_136 : decode mi_Md_alone.2.1 136 = .ok (.goto (-65), 3) := by decide +kernel
theorem dk_Md_alone_139 : decode mi_Md_alone.2.1 139 = .ok (.iload 4, 2) := by decide +kernel
theorem dk_Md_alone_141 : decode mi_Md_alone.2.1 141 = .ok (.ireturn, 1) := by decide +kernel
def Md_alone_l26 (k_59 : Int32 → Int32 → Int32 → nm_St → Option (Int32 × nm_St)) : Nat → Int32 → Int32 → Int32 → Int32 → nm_St → Option (Int32 × nm_St)
  | 0, _, _, _, _, _ => none
  | n + 1, x1, x2, x3, x4, σ =>
    (if (σ.1 70 1) ≤ x4 then
      k_59 x1 x2 x3 σ
    else
      ((Md_owners x4 x3 σ).bind fun q6 =>
      (if q6.1 = (1 : Int32) then
        (nm_let ((x2 ||| ((1 : Int32) <<< (x4 &&& 31)))) fun v8 =>
        (Md_alone_l26 k_59 n) x1 v8 x3 (x4 + (1 : Int32)) q6.2)
      else
        (Md_alone_l26 k_59 n) x1 x2 x3 (x4 + (1 : Int32)) q6.2)))
set_option maxRecDepth 100000 in
set_option maxHeartbeats 4000000 in
theorem r_Md_alone_l26 (X : nm_X) (F : nm_F) (hF0 : 2 ≤ nm_d F) (k_59 : Int32 → Int32 → Int32 → nm_St → Option (Int32 × nm_St)) (hk_59 : ∀ (x1 : Int32) (x2 : Int32) (x3 : Int32) (σ : nm_St), Rn X mi_Md_alone F (nm_Qf X F nm_wI) [(0, .ref 70), (1, .int x1), (2, .int x2), (3, .int x3)] [] 59 σ (k_59 x1 x2 x3 σ)) : ∀ (n : Nat) (x1 : Int32) (x2 : Int32) (x3 : Int32) (x4 : Int32) (σ : nm_St), Rn X mi_Md_alone F (nm_Qf X F nm_wI) [(0, .ref 70), (1, .int x1), (2, .int x2), (3, .int x3), (4, .int x4)] [] 26 σ (Md_alone_l26 k_59 n x1 x2 x3 x4 σ) := by
  intro n
  induction n with
  | zero =>
    intro x1 x2 x3 x4 σ
    exact rn_none
  | succ n ih =>
    intro x1 x2 x3 x4 σ
    unfold Md_alone_l26
    refine rn_iload (pc := 26) dk_Md_alone_26 rfl ?_
    refine rn_aload_n (pc := 28) 0 dk_Md_alone_28 rfl rfl rfl ?_
    refine gf_Md_7 (pc := 29) rfl dk_Md_alone_29 ?_
    refine rn_icmp_ge (pc := 32) 59 dk_Md_alone_32 (by decide) (fun c5 => ?_) (fun c5 => ?_)
    · exact rn_sub (by rfl) (hk_59 x1 x2 x3 σ)
    · refine rn_aload_n (pc := 35) 0 dk_Md_alone_35 rfl rfl rfl ?_
      refine rn_iload (pc := 36) dk_Md_alone_36 rfl ?_
      refine rn_iload_n (pc := 38) 3 dk_Md_alone_38 rfl rfl ?_
      refine cl_Md_204 (pc := 39) (As := [.int x4, .int x3]) (st := []) rfl (ct_Md_owners X x4 x3 σ) (Nat.le_trans (Nat.le_of_ble_eq_true rfl) hF0) rfl rfl (Nat.le_of_ble_eq_true rfl) dk_Md_alone_39 (fun q6 => ?_)
      refine rn_iconst (pc := 42) (1 : Int32) dk_Md_alone_42 cn_i_1 ?_
      refine rn_icmp_ne (pc := 43) 53 dk_Md_alone_43 (by decide) (fun c7 => ?_) (fun c7 => ?_)
      · refine rn_iinc (pc := 53) (1 : Int32) dk_Md_alone_53 cn_i_1 rfl rfl rfl ?_
        refine rn_goto (pc := 56) 26 dk_Md_alone_56 (by decide) ?_
        exact rn_sub (by rfl) (ih x1 x2 x3 (x4 + (1 : Int32)) q6.2)
      · refine rn_iload_n (pc := 46) 2 dk_Md_alone_46 rfl rfl ?_
        refine rn_iconst (pc := 47) (1 : Int32) dk_Md_alone_47 cn_i_1 ?_
        refine rn_iload (pc := 48) dk_Md_alone_48 rfl ?_
        refine rn_ishl (pc := 50) dk_Md_alone_50 ?_
        refine rn_ior (pc := 51) dk_Md_alone_51 ?_
        refine rn_leti (fun v8 => ?_)
        refine rn_istore_n (pc := 52) 2 dk_Md_alone_52 rfl rfl rfl ?_
        refine rn_iinc (pc := 53) (1 : Int32) dk_Md_alone_53 cn_i_1 rfl rfl rfl ?_
        refine rn_goto (pc := 56) 26 dk_Md_alone_56 (by decide) ?_
        exact rn_sub (by rfl) (ih x1 v8 x3 (x4 + (1 : Int32)) q6.2)
def Md_alone_l71 (k_139 : Int32 → nm_St → Option (Int32 × nm_St)) : Nat → Int32 → Int32 → Int32 → Int32 → nm_St → Option (Int32 × nm_St)
  | 0, _, _, _, _, _ => none
  | n + 1, x2, x3, x4, x5, σ =>
    (if (σ.1 70 0) ≤ x5 then
      k_139 x4 σ
    else
      (if x2 = 0 then
        k_139 x4 σ
      else
        ((Md_has x3 x5 σ).bind fun q16 =>
        (if q16.1 = 0 then
          (Md_alone_l71 k_139 n) x2 x3 x4 (x5 + (1 : Int32)) q16.2
        else
          (if x4 = (-1 : Int32) then
            (Md_alone_l71 k_139 n) x2 x3 x5 (x5 + (1 : Int32)) q16.2
          else
            (nm_g (nm_in x5 8) (
            ((Md_ones ((q16.2.1 75 x5.toNatClampNeg) &&& x2) q16.2).bind fun q20 =>
            (nm_g (nm_in x4 8) (
            ((Md_ones ((q20.2.1 75 x4.toNatClampNeg) &&& x2) q20.2).bind fun q22 =>
            (if q20.1 ≤ q22.1 then
              (Md_alone_l71 k_139 n) x2 x3 x4 (x5 + (1 : Int32)) q22.2
            else
              (Md_alone_l71 k_139 n) x2 x3 x5 (x5 + (1 : Int32)) q22.2))))))))))))
set_option maxRecDepth 100000 in
set_option maxHeartbeats 4000000 in
theorem r_Md_alone_l71 (X : nm_X) (F : nm_F) (hF0 : 2 ≤ nm_d F) (k_139 : Int32 → nm_St → Option (Int32 × nm_St)) (hk_139 : ∀ (x4 : Int32) (σ : nm_St), Rn X mi_Md_alone F (nm_Qf X F nm_wI) [(4, .int x4)] [] 139 σ (k_139 x4 σ)) : ∀ (n : Nat) (x2 : Int32) (x3 : Int32) (x4 : Int32) (x5 : Int32) (σ : nm_St), Rn X mi_Md_alone F (nm_Qf X F nm_wI) [(0, .ref 70), (2, .int x2), (3, .int x3), (4, .int x4), (5, .int x5)] [] 71 σ (Md_alone_l71 k_139 n x2 x3 x4 x5 σ) := by
  intro n
  induction n with
  | zero =>
    intro x2 x3 x4 x5 σ
    exact rn_none
  | succ n ih =>
    intro x2 x3 x4 x5 σ
    unfold Md_alone_l71
    refine rn_iload (pc := 71) dk_Md_alone_71 rfl ?_
    refine rn_aload_n (pc := 73) 0 dk_Md_alone_73 rfl rfl rfl ?_
    refine gf_Md_90 (pc := 74) rfl dk_Md_alone_74 ?_
    refine rn_icmp_ge (pc := 77) 139 dk_Md_alone_77 (by decide) (fun c14 => ?_) (fun c14 => ?_)
    · exact rn_sub (by rfl) (hk_139 x4 σ)
    · refine rn_iload_n (pc := 80) 2 dk_Md_alone_80 rfl rfl ?_
      refine rn_if_eq (pc := 81) 139 dk_Md_alone_81 (by decide) (fun c15 => ?_) (fun c15 => ?_)
      · exact rn_sub (by rfl) (hk_139 x4 σ)
      · refine rn_aload_n (pc := 84) 0 dk_Md_alone_84 rfl rfl rfl ?_
        refine rn_iload_n (pc := 85) 3 dk_Md_alone_85 rfl rfl ?_
        refine rn_iload (pc := 86) dk_Md_alone_86 rfl ?_
        refine cl_Md_174 (pc := 88) (As := [.int x3, .int x5]) (st := []) rfl (ct_Md_has X x3 x5 σ) (Nat.le_trans (Nat.le_of_ble_eq_true rfl) hF0) rfl rfl (Nat.le_of_ble_eq_true rfl) dk_Md_alone_88 (fun q16 => ?_)
        refine rn_if_eq (pc := 91) 133 dk_Md_alone_91 (by decide) (fun c17 => ?_) (fun c17 => ?_)
        · refine rn_iinc (pc := 133) (1 : Int32) dk_Md_alone_133 cn_i_1 rfl rfl rfl ?_
          refine rn_goto (pc := 136) 71 dk_Md_alone_136 (by decide) ?_
          exact rn_sub (by rfl) (ih x2 x3 x4 (x5 + (1 : Int32)) q16.2)
        · refine rn_iload (pc := 94) dk_Md_alone_94 rfl ?_
          refine rn_iconst (pc := 96) (-1 : Int32) dk_Md_alone_96 cn_i_m1 ?_
          refine rn_icmp_eq (pc := 97) 129 dk_Md_alone_97 (by decide) (fun c18 => ?_) (fun c18 => ?_)
          · refine rn_iload (pc := 129) dk_Md_alone_129 rfl ?_
            refine rn_istore (pc := 131) dk_Md_alone_131 rfl rfl ?_
            refine rn_iinc (pc := 133) (1 : Int32) dk_Md_alone_133 cn_i_1 rfl rfl rfl ?_
            refine rn_goto (pc := 136) 71 dk_Md_alone_136 (by decide) ?_
            exact rn_sub (by rfl) (ih x2 x3 x5 (x5 + (1 : Int32)) q16.2)
          · refine rn_aload_n (pc := 100) 0 dk_Md_alone_100 rfl rfl rfl ?_
            refine rn_aload_n (pc := 101) 0 dk_Md_alone_101 rfl rfl rfl ?_
            refine gf_Md_35 (pc := 102) rfl dk_Md_alone_102 ?_
            refine rn_iload (pc := 105) dk_Md_alone_105 rfl ?_
            refine rn_iaload (pc := 107) rfl dk_Md_alone_107 (fun g19 => ?_)
            refine rn_iload_n (pc := 108) 2 dk_Md_alone_108 rfl rfl ?_
            refine rn_iand (pc := 109) dk_Md_alone_109 ?_
            refine cl_Md_189 (pc := 110) (As := [.int ((q16.2.1 75 x5.toNatClampNeg) &&& x2)]) (st := []) rfl (ct_Md_ones X ((q16.2.1 75 x5.toNatClampNeg) &&& x2) q16.2) (Nat.le_trans (Nat.le_of_ble_eq_true rfl) hF0) rfl rfl (Nat.le_of_ble_eq_true rfl) dk_Md_alone_110 (fun q20 => ?_)
            refine rn_aload_n (pc := 113) 0 dk_Md_alone_113 rfl rfl rfl ?_
            refine rn_aload_n (pc := 114) 0 dk_Md_alone_114 rfl rfl rfl ?_
            refine gf_Md_35 (pc := 115) rfl dk_Md_alone_115 ?_
            refine rn_iload (pc := 118) dk_Md_alone_118 rfl ?_
            refine rn_iaload (pc := 120) rfl dk_Md_alone_120 (fun g21 => ?_)
            refine rn_iload_n (pc := 121) 2 dk_Md_alone_121 rfl rfl ?_
            refine rn_iand (pc := 122) dk_Md_alone_122 ?_
            refine cl_Md_189 (pc := 123) (As := [.int ((q20.2.1 75 x4.toNatClampNeg) &&& x2)]) (st := [.int q20.1]) rfl (ct_Md_ones X ((q20.2.1 75 x4.toNatClampNeg) &&& x2) q20.2) (Nat.le_trans (Nat.le_of_ble_eq_true rfl) hF0) rfl rfl (Nat.le_of_ble_eq_true rfl) dk_Md_alone_123 (fun q22 => ?_)
            refine rn_icmp_le (pc := 126) 133 dk_Md_alone_126 (by decide) (fun c23 => ?_) (fun c23 => ?_)
            · refine rn_iinc (pc := 133) (1 : Int32) dk_Md_alone_133 cn_i_1 rfl rfl rfl ?_
              refine rn_goto (pc := 136) 71 dk_Md_alone_136 (by decide) ?_
              exact rn_sub (by rfl) (ih x2 x3 x4 (x5 + (1 : Int32)) q22.2)
            · refine rn_iload (pc := 129) dk_Md_alone_129 rfl ?_
              refine rn_istore (pc := 131) dk_Md_alone_131 rfl rfl ?_
              refine rn_iinc (pc := 133) (1 : Int32) dk_Md_alone_133 cn_i_1 rfl rfl rfl ?_
              refine rn_goto (pc := 136) 71 dk_Md_alone_136 (by decide) ?_
              exact rn_sub (by rfl) (ih x2 x3 x5 (x5 + (1 : Int32)) q22.2)
def Md_alone (p1 : Int32) (σ : nm_St) : Option (Int32 × nm_St) :=
  (if p1 < 0 then
    ((Md_noTen (-5 : Int32) σ).bind fun q2 =>
    some (q2.1, q2.2))
  else
    (if p1 ≤ (1 : Int32) then
      ((Md_living σ).bind fun q4 =>
      Md_alone_l26 (fun (e10 : Int32) (e11 : Int32) (e12 : Int32) (s9 : nm_St) =>
        (if e10 = 0 then
          some (e11, s9)
        else
          Md_alone_l71 (fun (e25 : Int32) (s24 : nm_St) =>
            some (e25, s24)) 400 e11 e12 (-1 : Int32) (0 : Int32) s9)) 400 p1 (0 : Int32) q4.1 (0 : Int32) q4.2)
    else
      ((Md_noTen (-5 : Int32) σ).bind fun q26 =>
      some (q26.1, q26.2))))
set_option maxRecDepth 100000 in
set_option maxHeartbeats 4000000 in
theorem ct_Md_alone (X : nm_X) (p1 : Int32) (σ : nm_St) : Ct X mi_Md_alone 2 nm_wI [.ref 70, .int p1] σ (Md_alone p1 σ) := by
  refine Ct.of (by decide +kernel) rfl (fun F hF0 => ?_)
  unfold Md_alone
  refine rn_iload_n (pc := 0) 1 dk_Md_alone_0 rfl rfl ?_
  refine rn_if_lt (pc := 1) 9 dk_Md_alone_1 (by decide) (fun c1 => ?_) (fun c1 => ?_)
  · refine rn_aload_n (pc := 9) 0 dk_Md_alone_9 rfl rfl rfl ?_
    refine rn_bipush (pc := 10) (-5 : Int32) dk_Md_alone_10 cn_b_m5 ?_
    refine cl_Md_195 (pc := 12) (As := [.int (-5 : Int32)]) (st := []) rfl (ct_Md_noTen X (-5 : Int32) σ) (Nat.le_trans (Nat.le_of_ble_eq_true rfl) hF0) rfl rfl (Nat.le_of_ble_eq_true rfl) dk_Md_alone_12 (fun q2 => ?_)
    exact rn_iret rfl dk_Md_alone_15
  · refine rn_iload_n (pc := 4) 1 dk_Md_alone_4 rfl rfl ?_
    refine rn_iconst (pc := 5) (1 : Int32) dk_Md_alone_5 cn_i_1 ?_
    refine rn_icmp_le (pc := 6) 16 dk_Md_alone_6 (by decide) (fun c3 => ?_) (fun c3 => ?_)
    · refine rn_iconst (pc := 16) (0 : Int32) dk_Md_alone_16 cn_i_0 ?_
      refine rn_istore_n (pc := 17) 2 dk_Md_alone_17 rfl rfl rfl ?_
      refine rn_aload_n (pc := 18) 0 dk_Md_alone_18 rfl rfl rfl ?_
      refine cl_Md_201 (pc := 19) (As := []) (st := []) rfl (ct_Md_living X σ) (Nat.le_trans (Nat.le_of_ble_eq_true rfl) hF0) rfl rfl (Nat.le_of_ble_eq_true rfl) dk_Md_alone_19 (fun q4 => ?_)
      refine rn_istore_n (pc := 22) 3 dk_Md_alone_22 rfl rfl rfl ?_
      refine rn_iconst (pc := 23) (0 : Int32) dk_Md_alone_23 cn_i_0 ?_
      refine rn_istore (pc := 24) dk_Md_alone_24 rfl rfl ?_
      refine rn_sub (by rfl) (r_Md_alone_l26 X F hF0 _ (fun e10 e11 e12 s9 => ?_) 400 p1 (0 : Int32) q4.1 (0 : Int32) q4.2)
      refine rn_iload_n (pc := 59) 1 dk_Md_alone_59 rfl rfl ?_
      refine rn_if_ne (pc := 60) 65 dk_Md_alone_60 (by decide) (fun c13 => ?_) (fun c13 => ?_)
      · refine rn_iconst (pc := 65) (-1 : Int32) dk_Md_alone_65 cn_i_m1 ?_
        refine rn_istore (pc := 66) dk_Md_alone_66 rfl rfl ?_
        refine rn_iconst (pc := 68) (0 : Int32) dk_Md_alone_68 cn_i_0 ?_
        refine rn_istore (pc := 69) dk_Md_alone_69 rfl rfl ?_
        refine rn_sub (by rfl) (r_Md_alone_l71 X F hF0 _ (fun e25 s24 => ?_) 400 e11 e12 (-1 : Int32) (0 : Int32) s9)
        refine rn_iload (pc := 139) dk_Md_alone_139 rfl ?_
        exact rn_iret rfl dk_Md_alone_141
      · refine rn_iload_n (pc := 63) 2 dk_Md_alone_63 rfl rfl ?_
        exact rn_iret rfl dk_Md_alone_64
    · refine rn_aload_n (pc := 9) 0 dk_Md_alone_9 rfl rfl rfl ?_
      refine rn_bipush (pc := 10) (-5 : Int32) dk_Md_alone_10 cn_b_m5 ?_
      refine cl_Md_195 (pc := 12) (As := [.int (-5 : Int32)]) (st := []) rfl (ct_Md_noTen X (-5 : Int32) σ) (Nat.le_trans (Nat.le_of_ble_eq_true rfl) hF0) rfl rfl (Nat.le_of_ble_eq_true rfl) dk_Md_alone_12 (fun q26 => ?_)
      exact rn_iret rfl dk_Md_alone_15
theorem dk_Md_standsWithout_0 : decode mi_Md_standsWithout.2.1 0 = .ok (.aload_n 0, 1) := by decide +kernel
theorem dk_Md_standsWithout_1 : decode mi_Md_standsWithout.2.1 1 = .ok (.iconst 0, 1) := by decide +kernel
theorem dk_Md_standsWithout_2 : decode mi_Md_standsWithout.2.1 2 = .ok (.invokevirtual 183, 3) := by decide +kernel
theorem dk_Md_standsWithout_5 : decode mi_Md_standsWithout.2.1 5 = .ok (.istore_n 3, 1) := by decide +kernel
theorem dk_Md_standsWithout_6 : decode mi_Md_standsWithout.2.1 6 = .ok (.aload_n 0, 1) := by decide +kernel
theorem dk_Md_standsWithout_7 : decode mi_Md_standsWithout.2.1 7 = .ok (.iload_n 3, 1) := by decide +kernel
theorem dk_Md_standsWithout_8 : decode mi_Md_standsWithout.2.1 8 = .ok (.invokevirtual 189, 3) := by decide +kernel
theorem dk_Md_standsWithout_11 : decode mi_Md_standsWithout.2.1 11 = .ok (.iload_n 1, 1) := by decide +kernel
theorem dk_Md_standsWithout_12 : decode mi_Md_standsWithout.2.1 12 = .ok (.if_icmp .ge 5, 3) := by decide +kernel
theorem dk_Md_standsWithout_15 : decode mi_Md_standsWithout.2.1 15 = .ok (.iconst 0, 1) := by decide +kernel
theorem dk_Md_standsWithout_16 : decode mi_Md_standsWithout.2.1 16 = .ok (.ireturn, 1) := by decide +kernel
theorem dk_Md_standsWithout_17 : decode mi_Md_standsWithout.2.1 17 = .ok (.iconst 0, 1) := by decide +kernel
theorem dk_Md_standsWithout_18 : decode mi_Md_standsWithout.2.1 18 = .ok (.istore 4, 2) := by decide +kernel
theorem dk_Md_standsWithout_20 : decode mi_Md_standsWithout.2.1 20 = .ok (.iload 4, 2) := by decide +kernel
theorem dk_Md_standsWithout_22 : decode mi_Md_standsWithout.2.1 22 = .ok (.iload_n 2, 1) := by decide +kernel
theorem dk_Md_standsWithout_23 : decode mi_Md_standsWithout.2.1 23 = .ok (.if_icmp .ge 22, 3) := by decide +kernel
theorem dk_Md_standsWithout_26 : decode mi_Md_standsWithout.2.1 26 = .ok (.aload_n 0, 1) := by decide +kernel
theorem dk_Md_standsWithout_27 : decode mi_Md_standsWithout.2.1 27 = .ok (.iload 4, 2) := by decide +kernel
theorem dk_Md_standsWithout_29 : decode mi_Md_standsWithout.2.1 29 = .ok (.iload_n 3, 1) := by decide +kernel
theorem dk_Md_standsWithout_30 : decode mi_Md_standsWithout.2.1 30 = .ok (.invokevirtual 204, 3) := by decide +kernel
theorem dk_Md_standsWithout_33 : decode mi_Md_standsWithout.2.1 33 = .ok (.iload_n 1, 1) := by decide +kernel
theorem dk_Md_standsWithout_34 : decode mi_Md_standsWithout.2.1 34 = .ok (.if_icmp .gt 5, 3) := by decide +kernel
theorem dk_Md_standsWithout_37 : decode mi_Md_standsWithout.2.1 37 = .ok (.iconst 0, 1) := by decide +kernel
theorem dk_Md_standsWithout_38 : decode mi_Md_standsWithout.2.1 38 = .ok (.ireturn, 1) := by decide +kernel
theorem dk_Md_standsWithout_39 : decode mi_Md_standsWithout.2.1 39 = .ok (.iinc 4 1, 3) := by decide +kernel
theorem dk_Md_standsWithout_42 : decode mi_Md_standsWithout.2.1 42 = .ok (.goto (-22), 3) := by decide +kernel
theorem dk_Md_standsWithout_45 : decode mi_Md_standsWithout.2.1 45 = .ok (.iconst 1, 1) := by decide +kernel
theorem dk_Md_standsWithout_46 : decode mi_Md_standsWithout.2.1 46 = .ok (.ireturn, 1) := by decide +kernel
def Md_standsWithout_l20 (k_45 : nm_St → Option (Int32 × nm_St)) : Nat → Int32 → Int32 → Int32 → Int32 → nm_St → Option (Int32 × nm_St)
  | 0, _, _, _, _, _ => none
  | n + 1, x1, x2, x3, x4, σ =>
    (if x2 ≤ x4 then
      k_45 σ
    else
      ((Md_owners x4 x3 σ).bind fun q5 =>
      (if x1 < q5.1 then
        (Md_standsWithout_l20 k_45 n) x1 x2 x3 (x4 + (1 : Int32)) q5.2
      else
        some ((0 : Int32), q5.2))))
set_option maxRecDepth 100000 in
set_option maxHeartbeats 4000000 in
theorem r_Md_standsWithout_l20 (X : nm_X) (F : nm_F) (hF0 : 2 ≤ nm_d F) (k_45 : nm_St → Option (Int32 × nm_St)) (hk_45 : ∀ (σ : nm_St), Rn X mi_Md_standsWithout F (nm_Qf X F nm_wI) [] [] 45 σ (k_45 σ)) : ∀ (n : Nat) (x1 : Int32) (x2 : Int32) (x3 : Int32) (x4 : Int32) (σ : nm_St), Rn X mi_Md_standsWithout F (nm_Qf X F nm_wI) [(0, .ref 70), (1, .int x1), (2, .int x2), (3, .int x3), (4, .int x4)] [] 20 σ (Md_standsWithout_l20 k_45 n x1 x2 x3 x4 σ) := by
  intro n
  induction n with
  | zero =>
    intro x1 x2 x3 x4 σ
    exact rn_none
  | succ n ih =>
    intro x1 x2 x3 x4 σ
    unfold Md_standsWithout_l20
    refine rn_iload (pc := 20) dk_Md_standsWithout_20 rfl ?_
    refine rn_iload_n (pc := 22) 2 dk_Md_standsWithout_22 rfl rfl ?_
    refine rn_icmp_ge (pc := 23) 45 dk_Md_standsWithout_23 (by decide) (fun c4 => ?_) (fun c4 => ?_)
    · exact rn_sub (by rfl) (hk_45 σ)
    · refine rn_aload_n (pc := 26) 0 dk_Md_standsWithout_26 rfl rfl rfl ?_
      refine rn_iload (pc := 27) dk_Md_standsWithout_27 rfl ?_
      refine rn_iload_n (pc := 29) 3 dk_Md_standsWithout_29 rfl rfl ?_
      refine cl_Md_204 (pc := 30) (As := [.int x4, .int x3]) (st := []) rfl (ct_Md_owners X x4 x3 σ) (Nat.le_trans (Nat.le_of_ble_eq_true rfl) hF0) rfl rfl (Nat.le_of_ble_eq_true rfl) dk_Md_standsWithout_30 (fun q5 => ?_)
      refine rn_iload_n (pc := 33) 1 dk_Md_standsWithout_33 rfl rfl ?_
      refine rn_icmp_gt (pc := 34) 39 dk_Md_standsWithout_34 (by decide) (fun c6 => ?_) (fun c6 => ?_)
      · refine rn_iinc (pc := 39) (1 : Int32) dk_Md_standsWithout_39 cn_i_1 rfl rfl rfl ?_
        refine rn_goto (pc := 42) 20 dk_Md_standsWithout_42 (by decide) ?_
        exact rn_sub (by rfl) (ih x1 x2 x3 (x4 + (1 : Int32)) q5.2)
      · refine rn_iconst (pc := 37) (0 : Int32) dk_Md_standsWithout_37 cn_i_0 ?_
        exact rn_zret (ty := .boolean) rfl rfl dk_Md_standsWithout_38
def Md_standsWithout (p1 : Int32) (p2 : Int32) (σ : nm_St) : Option (Int32 × nm_St) :=
  ((Md_those (0 : Int32) σ).bind fun q1 =>
  ((Md_ones q1.1 q1.2).bind fun q2 =>
  (if p1 ≤ q2.1 then
    Md_standsWithout_l20 (fun (s7 : nm_St) =>
      some ((1 : Int32), s7)) 400 p1 p2 q1.1 (0 : Int32) q2.2
  else
    some ((0 : Int32), q2.2))))
set_option maxRecDepth 100000 in
set_option maxHeartbeats 4000000 in
theorem ct_Md_standsWithout (X : nm_X) (p1 : Int32) (p2 : Int32) (σ : nm_St) : Ct X mi_Md_standsWithout 2 nm_wI [.ref 70, .int p1, .int p2] σ (Md_standsWithout p1 p2 σ) := by
  refine Ct.of (by decide +kernel) rfl (fun F hF0 => ?_)
  unfold Md_standsWithout
  refine rn_aload_n (pc := 0) 0 dk_Md_standsWithout_0 rfl rfl rfl ?_
  refine rn_iconst (pc := 1) (0 : Int32) dk_Md_standsWithout_1 cn_i_0 ?_
  refine cl_Md_183 (pc := 2) (As := [.int (0 : Int32)]) (st := []) rfl (ct_Md_those X (0 : Int32) σ) (Nat.le_trans (Nat.le_of_ble_eq_true rfl) hF0) rfl rfl (Nat.le_of_ble_eq_true rfl) dk_Md_standsWithout_2 (fun q1 => ?_)
  refine rn_istore_n (pc := 5) 3 dk_Md_standsWithout_5 rfl rfl rfl ?_
  refine rn_aload_n (pc := 6) 0 dk_Md_standsWithout_6 rfl rfl rfl ?_
  refine rn_iload_n (pc := 7) 3 dk_Md_standsWithout_7 rfl rfl ?_
  refine cl_Md_189 (pc := 8) (As := [.int q1.1]) (st := []) rfl (ct_Md_ones X q1.1 q1.2) (Nat.le_trans (Nat.le_of_ble_eq_true rfl) hF0) rfl rfl (Nat.le_of_ble_eq_true rfl) dk_Md_standsWithout_8 (fun q2 => ?_)
  refine rn_iload_n (pc := 11) 1 dk_Md_standsWithout_11 rfl rfl ?_
  refine rn_icmp_ge (pc := 12) 17 dk_Md_standsWithout_12 (by decide) (fun c3 => ?_) (fun c3 => ?_)
  · refine rn_iconst (pc := 17) (0 : Int32) dk_Md_standsWithout_17 cn_i_0 ?_
    refine rn_istore (pc := 18) dk_Md_standsWithout_18 rfl rfl ?_
    refine rn_sub (by rfl) (r_Md_standsWithout_l20 X F hF0 _ (fun s7 => ?_) 400 p1 p2 q1.1 (0 : Int32) q2.2)
    refine rn_iconst (pc := 45) (1 : Int32) dk_Md_standsWithout_45 cn_i_1 ?_
    exact rn_zret (ty := .boolean) rfl rfl dk_Md_standsWithout_46
  · refine rn_iconst (pc := 15) (0 : Int32) dk_Md_standsWithout_15 cn_i_0 ?_
    exact rn_zret (ty := .boolean) rfl rfl dk_Md_standsWithout_16
theorem dk_Md_without_0 : decode mi_Md_without.2.1 0 = .ok (.iload_n 1, 1) := by decide +kernel
theorem dk_Md_without_1 : decode mi_Md_without.2.1 1 = .ok (.ifCond .lt 9, 3) := by decide +kernel
theorem dk_Md_without_4 : decode mi_Md_without.2.1 4 = .ok (.iload_n 1, 1) := by decide +kernel
theorem dk_Md_without_5 : decode mi_Md_without.2.1 5 = .ok (.bipush 8, 2) := by decide +kernel
theorem dk_Md_without_7 : decode mi_Md_without.2.1 7 = .ok (.if_icmp .le 10, 3) := by decide +kernel
theorem dk_Md_without_10 : decode mi_Md_without.2.1 10 = .ok (.aload_n 0, 1) := by decide +kernel
theorem dk_Md_without_11 : decode mi_Md_without.2.1 11 = .ok (.bipush (-6), 2) := by decide +kernel
theorem dk_Md_without_13 : decode mi_Md_without.2.1 13 = .ok (.invokevirtual 97, 3) := by decide +kernel
theorem dk_Md_without_16 : decode mi_Md_without.2.1 16 = .ok (.ireturn, 1) := by decide +kernel
theorem dk_Md_without_17 : decode mi_Md_without.2.1 17 = .ok (.aload_n 0, 1) := by decide +kernel
theorem dk_Md_without_18 : decode mi_Md_without.2.1 18 = .ok (.iload_n 1, 1) := by decide +kernel
theorem dk_Md_without_19 : decode mi_Md_without.2.1 19 = .ok (.aload_n 0, 1) := by decide +kernel
theorem dk_Md_without_20 : decode mi_Md_without.2.1 20 = .ok (.getfield 7, 3) := by decide +kernel
theorem dk_Md_without_23 : decode mi_Md_without.2.1 23 = .ok (.invokevirtual 208, 3) := by decide +kernel
theorem dk_Md_without_26 : decode mi_Md_without.2.1 26 = .ok (.ifCond .eq 7, 3) := by decide +kernel
theorem dk_Md_without_29 : decode mi_Md_without.2.1 29 = .ok (.iconst 1, 1) := by decide +kernel
theorem dk_Md_without_30 : decode mi_Md_without.2.1 30 = .ok (.goto 4, 3) := by decide +kernel
theorem dk_Md_without_33 : decode mi_Md_without.2.1 33 = .ok (.iconst 0, 1) := by decide +kernel
theorem dk_Md_without_34 : decode mi_Md_without.2.1 34 = .ok (.ireturn, 1) := by decide +kernel
def Md_without (p1 : Int32) (σ : nm_St) : Option (Int32 × nm_St) :=
  (if p1 < 0 then
    ((Md_no (-6 : Int32) σ).bind fun q2 =>
    some (q2.1, q2.2))
  else
    (if p1 ≤ (8 : Int32) then
      ((Md_standsWithout p1 (σ.1 70 1) σ).bind fun q4 =>
      (if q4.1 = 0 then
        some ((0 : Int32), q4.2)
      else
        some ((1 : Int32), q4.2)))
    else
      ((Md_no (-6 : Int32) σ).bind fun q6 =>
      some (q6.1, q6.2))))
set_option maxRecDepth 100000 in
set_option maxHeartbeats 4000000 in
theorem ct_Md_without (X : nm_X) (p1 : Int32) (σ : nm_St) : Ct X mi_Md_without 3 nm_wI [.ref 70, .int p1] σ (Md_without p1 σ) := by
  refine Ct.of (by decide +kernel) rfl (fun F hF0 => ?_)
  unfold Md_without
  refine rn_iload_n (pc := 0) 1 dk_Md_without_0 rfl rfl ?_
  refine rn_if_lt (pc := 1) 10 dk_Md_without_1 (by decide) (fun c1 => ?_) (fun c1 => ?_)
  · refine rn_aload_n (pc := 10) 0 dk_Md_without_10 rfl rfl rfl ?_
    refine rn_bipush (pc := 11) (-6 : Int32) dk_Md_without_11 cn_b_m6 ?_
    refine cl_Md_97 (pc := 13) (As := [.int (-6 : Int32)]) (st := []) rfl (ct_Md_no X (-6 : Int32) σ) (Nat.le_trans (Nat.le_of_ble_eq_true rfl) hF0) rfl rfl (Nat.le_of_ble_eq_true rfl) dk_Md_without_13 (fun q2 => ?_)
    exact rn_iret rfl dk_Md_without_16
  · refine rn_iload_n (pc := 4) 1 dk_Md_without_4 rfl rfl ?_
    refine rn_bipush (pc := 5) (8 : Int32) dk_Md_without_5 cn_b_8 ?_
    refine rn_icmp_le (pc := 7) 17 dk_Md_without_7 (by decide) (fun c3 => ?_) (fun c3 => ?_)
    · refine rn_aload_n (pc := 17) 0 dk_Md_without_17 rfl rfl rfl ?_
      refine rn_iload_n (pc := 18) 1 dk_Md_without_18 rfl rfl ?_
      refine rn_aload_n (pc := 19) 0 dk_Md_without_19 rfl rfl rfl ?_
      refine gf_Md_7 (pc := 20) rfl dk_Md_without_20 ?_
      refine cl_Md_208 (pc := 23) (As := [.int p1, .int (σ.1 70 1)]) (st := []) rfl (ct_Md_standsWithout X p1 (σ.1 70 1) σ) (Nat.le_trans (Nat.le_of_ble_eq_true rfl) hF0) rfl rfl (Nat.le_of_ble_eq_true rfl) dk_Md_without_23 (fun q4 => ?_)
      refine rn_if_eq (pc := 26) 33 dk_Md_without_26 (by decide) (fun c5 => ?_) (fun c5 => ?_)
      · refine rn_iconst (pc := 33) (0 : Int32) dk_Md_without_33 cn_i_0 ?_
        exact rn_iret rfl dk_Md_without_34
      · refine rn_iconst (pc := 29) (1 : Int32) dk_Md_without_29 cn_i_1 ?_
        refine rn_goto (pc := 30) 34 dk_Md_without_30 (by decide) ?_
        exact rn_iret rfl dk_Md_without_34
    · refine rn_aload_n (pc := 10) 0 dk_Md_without_10 rfl rfl rfl ?_
      refine rn_bipush (pc := 11) (-6 : Int32) dk_Md_without_11 cn_b_m6 ?_
      refine cl_Md_97 (pc := 13) (As := [.int (-6 : Int32)]) (st := []) rfl (ct_Md_no X (-6 : Int32) σ) (Nat.le_trans (Nat.le_of_ble_eq_true rfl) hF0) rfl rfl (Nat.le_of_ble_eq_true rfl) dk_Md_without_13 (fun q6 => ?_)
      exact rn_iret rfl dk_Md_without_16
theorem dk_Md_sold_0 : decode mi_Md_sold.2.1 0 = .ok (.iload_n 1, 1) := by decide +kernel
theorem dk_Md_sold_1 : decode mi_Md_sold.2.1 1 = .ok (.iconst 1, 1) := by decide +kernel
theorem dk_Md_sold_2 : decode mi_Md_sold.2.1 2 = .ok (.if_icmp .lt 9, 3) := by decide +kernel
theorem dk_Md_sold_5 : decode mi_Md_sold.2.1 5 = .ok (.iload_n 1, 1) := by decide +kernel
theorem dk_Md_sold_6 : decode mi_Md_sold.2.1 6 = .ok (.bipush 8, 2) := by decide +kernel
theorem dk_Md_sold_8 : decode mi_Md_sold.2.1 8 = .ok (.if_icmp .le 10, 3) := by decide +kernel
theorem dk_Md_sold_11 : decode mi_Md_sold.2.1 11 = .ok (.aload_n 0, 1) := by decide +kernel
theorem dk_Md_sold_12 : decode mi_Md_sold.2.1 12 = .ok (.bipush (-6), 2) := by decide +kernel
theorem dk_Md_sold_14 : decode mi_Md_sold.2.1 14 = .ok (.invokevirtual 97, 3) := by decide +kernel
theorem dk_Md_sold_17 : decode mi_Md_sold.2.1 17 = .ok (.ireturn, 1) := by decide +kernel
theorem dk_Md_sold_18 : decode mi_Md_sold.2.1 18 = .ok (.aload_n 0, 1) := by decide +kernel
theorem dk_Md_sold_19 : decode mi_Md_sold.2.1 19 = .ok (.invokevirtual 201, 3) := by decide +kernel
theorem dk_Md_sold_22 : decode mi_Md_sold.2.1 22 = .ok (.istore_n 2, 1) := by decide +kernel
theorem dk_Md_sold_23 : decode mi_Md_sold.2.1 23 = .ok (.iconst 0, 1) := by decide +kernel
theorem dk_Md_sold_24 : decode mi_Md_sold.2.1 24 = .ok (.istore_n 3, 1) := by decide +kernel
theorem dk_Md_sold_25 : decode mi_Md_sold.2.1 25 = .ok (.iload_n 3, 1) := by decide +kernel
theorem dk_Md_sold_26 : decode mi_Md_sold.2.1 26 = .ok (.iconst 1, 1) := by decide +kernel
theorem dk_Md_sold_27 : decode mi_Md_sold.2.1 27 = .ok (.aload_n 0, 1) := by decide +kernel
theorem dk_Md_sold_28 : decode mi_Md_sold.2.1 28 = .ok (.getfield 90, 3) := by decide +kernel
theorem dk_Md_sold_31 : decode mi_Md_sold.2.1 31 = .ok (.ishl, 1) := by decide +kernel
theorem dk_Md_sold_32 : decode mi_Md_sold.2.1 32 = .ok (.if_icmp .ge 36, 3) := by decide +kernel
theorem dk_Md_sold_35 : decode mi_Md_sold.2.1 35 = .ok (.iload_n 3, 1) := by decide +kernel
theorem dk_Md_sold_36 : decode mi_Md_sold.2.1 36 = .ok (.iload_n 2, 1) := by decide +kernel
theorem dk_Md_sold_37 : decode mi_Md_sold.2.1 37 = .ok (.iconst (-1), 1) := by decide +kernel
theorem dk_Md_sold_38 : decode mi_Md_sold.2.1 38 = .ok (.ixor, 1) := by decide +kernel
theorem dk_Md_sold_39 : decode mi_Md_sold.2.1 39 = .ok (.iand, 1) := by decide +kernel
theorem dk_Md_sold_40 : decode mi_Md_sold.2.1 40 = .ok (.ifCond .ne 22, 3) := by decide +kernel
theorem dk_Md_sold_43 : decode mi_Md_sold.2.1 43 = .ok (.aload_n 0, 1) := by decide +kernel
theorem dk_Md_sold_44 : decode mi_Md_sold.2.1 44 = .ok (.iload_n 3, 1) := by decide +kernel
theorem dk_Md_sold_45 : decode mi_Md_sold.2.1 45 = .ok (.invokevirtual 189, 3) := by decide +kernel
theorem dk_Md_sold_48 : decode mi_Md_sold.2.1 48 = .ok (.iload_n 1, 1) := by decide +kernel
theorem dk_Md_sold_49 : decode mi_Md_sold.2.1 49 = .ok (.if_icmp .gt 13, 3) := by decide +kernel
theorem dk_Md_sold_52 : decode mi_Md_sold.2.1 52 = .ok (.aload_n 0, 1) := by decide +kernel
theorem dk_Md_sold_53 : decode mi_Md_sold.2.1 53 = .ok (.iload_n 3, 1) := by decide +kernel
theorem dk_Md_sold_54 : decode mi_Md_sold.2.1 54 = .ok (.invokevirtual 186, 3) := by decide +kernel
theorem dk_Md_sold_57 : decode mi_Md_sold.2.1 57 = .ok (.ifCond .eq 5, 3) := by decide +kernel
theorem dk_Md_sold_60 : decode mi_Md_sold.2.1 60 = .ok (.iconst 1, 1) := by decide +kernel
theorem dk_Md_sold_61 : decode mi_Md_sold.2.1 61 = .ok (.ireturn, 1) := by decide +kernel
theorem dk_Md_sold_62 : decode mi_Md_sold.2.1 62 = .ok (.iinc 3 1, 3) := by decide +kernel
theorem dk_Md_sold_65 : decode mi_Md_sold.2.1 65 = .ok (.goto (-40), 3) := by decide +kernel
theorem dk_Md_sold_68 : decode mi_Md_sold.2.1 68 = .ok (.iconst 0, 1) := by decide +kernel
theorem dk_Md_sold_69 : decode mi_Md_sold.2.1 69 = .ok (.ireturn, 1) := by decide +kernel
def Md_sold_l25 (k_68 : nm_St → Option (Int32 × nm_St)) : Nat → Int32 → Int32 → Int32 → nm_St → Option (Int32 × nm_St)
  | 0, _, _, _, _ => none
  | n + 1, x1, x2, x3, σ =>
    (if ((1 : Int32) <<< ((σ.1 70 0) &&& 31)) ≤ x3 then
      k_68 σ
    else
      (if (x3 &&& (x2 ^^^ (-1 : Int32))) = 0 then
        ((Md_ones x3 σ).bind fun q7 =>
        (if x1 < q7.1 then
          (Md_sold_l25 k_68 n) x1 x2 (x3 + (1 : Int32)) q7.2
        else
          ((Md_isMade x3 q7.2).bind fun q9 =>
          (if q9.1 = 0 then
            (Md_sold_l25 k_68 n) x1 x2 (x3 + (1 : Int32)) q9.2
          else
            some ((1 : Int32), q9.2)))))
      else
        (Md_sold_l25 k_68 n) x1 x2 (x3 + (1 : Int32)) σ))
set_option maxRecDepth 100000 in
set_option maxHeartbeats 4000000 in
theorem r_Md_sold_l25 (X : nm_X) (F : nm_F) (hF0 : 3 ≤ nm_d F) (k_68 : nm_St → Option (Int32 × nm_St)) (hk_68 : ∀ (σ : nm_St), Rn X mi_Md_sold F (nm_Qf X F nm_wI) [] [] 68 σ (k_68 σ)) : ∀ (n : Nat) (x1 : Int32) (x2 : Int32) (x3 : Int32) (σ : nm_St), Rn X mi_Md_sold F (nm_Qf X F nm_wI) [(0, .ref 70), (1, .int x1), (2, .int x2), (3, .int x3)] [] 25 σ (Md_sold_l25 k_68 n x1 x2 x3 σ) := by
  intro n
  induction n with
  | zero =>
    intro x1 x2 x3 σ
    exact rn_none
  | succ n ih =>
    intro x1 x2 x3 σ
    unfold Md_sold_l25
    refine rn_iload_n (pc := 25) 3 dk_Md_sold_25 rfl rfl ?_
    refine rn_iconst (pc := 26) (1 : Int32) dk_Md_sold_26 cn_i_1 ?_
    refine rn_aload_n (pc := 27) 0 dk_Md_sold_27 rfl rfl rfl ?_
    refine gf_Md_90 (pc := 28) rfl dk_Md_sold_28 ?_
    refine rn_ishl (pc := 31) dk_Md_sold_31 ?_
    refine rn_icmp_ge (pc := 32) 68 dk_Md_sold_32 (by decide) (fun c5 => ?_) (fun c5 => ?_)
    · exact rn_sub (by rfl) (hk_68 σ)
    · refine rn_iload_n (pc := 35) 3 dk_Md_sold_35 rfl rfl ?_
      refine rn_iload_n (pc := 36) 2 dk_Md_sold_36 rfl rfl ?_
      refine rn_iconst (pc := 37) (-1 : Int32) dk_Md_sold_37 cn_i_m1 ?_
      refine rn_ixor (pc := 38) dk_Md_sold_38 ?_
      refine rn_iand (pc := 39) dk_Md_sold_39 ?_
      refine rn_if_ne (pc := 40) 62 dk_Md_sold_40 (by decide) (fun c6 => ?_) (fun c6 => ?_)
      · refine rn_iinc (pc := 62) (1 : Int32) dk_Md_sold_62 cn_i_1 rfl rfl rfl ?_
        refine rn_goto (pc := 65) 25 dk_Md_sold_65 (by decide) ?_
        exact rn_sub (by rfl) (ih x1 x2 (x3 + (1 : Int32)) σ)
      · refine rn_aload_n (pc := 43) 0 dk_Md_sold_43 rfl rfl rfl ?_
        refine rn_iload_n (pc := 44) 3 dk_Md_sold_44 rfl rfl ?_
        refine cl_Md_189 (pc := 45) (As := [.int x3]) (st := []) rfl (ct_Md_ones X x3 σ) (Nat.le_trans (Nat.le_of_ble_eq_true rfl) hF0) rfl rfl (Nat.le_of_ble_eq_true rfl) dk_Md_sold_45 (fun q7 => ?_)
        refine rn_iload_n (pc := 48) 1 dk_Md_sold_48 rfl rfl ?_
        refine rn_icmp_gt (pc := 49) 62 dk_Md_sold_49 (by decide) (fun c8 => ?_) (fun c8 => ?_)
        · refine rn_iinc (pc := 62) (1 : Int32) dk_Md_sold_62 cn_i_1 rfl rfl rfl ?_
          refine rn_goto (pc := 65) 25 dk_Md_sold_65 (by decide) ?_
          exact rn_sub (by rfl) (ih x1 x2 (x3 + (1 : Int32)) q7.2)
        · refine rn_aload_n (pc := 52) 0 dk_Md_sold_52 rfl rfl rfl ?_
          refine rn_iload_n (pc := 53) 3 dk_Md_sold_53 rfl rfl ?_
          refine cl_Md_186 (pc := 54) (As := [.int x3]) (st := []) rfl (ct_Md_isMade X x3 q7.2) (Nat.le_trans (Nat.le_of_ble_eq_true rfl) hF0) rfl rfl (Nat.le_of_ble_eq_true rfl) dk_Md_sold_54 (fun q9 => ?_)
          refine rn_if_eq (pc := 57) 62 dk_Md_sold_57 (by decide) (fun c10 => ?_) (fun c10 => ?_)
          · refine rn_iinc (pc := 62) (1 : Int32) dk_Md_sold_62 cn_i_1 rfl rfl rfl ?_
            refine rn_goto (pc := 65) 25 dk_Md_sold_65 (by decide) ?_
            exact rn_sub (by rfl) (ih x1 x2 (x3 + (1 : Int32)) q9.2)
          · refine rn_iconst (pc := 60) (1 : Int32) dk_Md_sold_60 cn_i_1 ?_
            exact rn_iret rfl dk_Md_sold_61
def Md_sold (p1 : Int32) (σ : nm_St) : Option (Int32 × nm_St) :=
  (if p1 < (1 : Int32) then
    ((Md_no (-6 : Int32) σ).bind fun q2 =>
    some (q2.1, q2.2))
  else
    (if p1 ≤ (8 : Int32) then
      ((Md_living σ).bind fun q4 =>
      Md_sold_l25 (fun (s11 : nm_St) =>
        some ((0 : Int32), s11)) 400 p1 q4.1 (0 : Int32) q4.2)
    else
      ((Md_no (-6 : Int32) σ).bind fun q12 =>
      some (q12.1, q12.2))))
set_option maxRecDepth 100000 in
set_option maxHeartbeats 4000000 in
theorem ct_Md_sold (X : nm_X) (p1 : Int32) (σ : nm_St) : Ct X mi_Md_sold 3 nm_wI [.ref 70, .int p1] σ (Md_sold p1 σ) := by
  refine Ct.of (by decide +kernel) rfl (fun F hF0 => ?_)
  unfold Md_sold
  refine rn_iload_n (pc := 0) 1 dk_Md_sold_0 rfl rfl ?_
  refine rn_iconst (pc := 1) (1 : Int32) dk_Md_sold_1 cn_i_1 ?_
  refine rn_icmp_lt (pc := 2) 11 dk_Md_sold_2 (by decide) (fun c1 => ?_) (fun c1 => ?_)
  · refine rn_aload_n (pc := 11) 0 dk_Md_sold_11 rfl rfl rfl ?_
    refine rn_bipush (pc := 12) (-6 : Int32) dk_Md_sold_12 cn_b_m6 ?_
    refine cl_Md_97 (pc := 14) (As := [.int (-6 : Int32)]) (st := []) rfl (ct_Md_no X (-6 : Int32) σ) (Nat.le_trans (Nat.le_of_ble_eq_true rfl) hF0) rfl rfl (Nat.le_of_ble_eq_true rfl) dk_Md_sold_14 (fun q2 => ?_)
    exact rn_iret rfl dk_Md_sold_17
  · refine rn_iload_n (pc := 5) 1 dk_Md_sold_5 rfl rfl ?_
    refine rn_bipush (pc := 6) (8 : Int32) dk_Md_sold_6 cn_b_8 ?_
    refine rn_icmp_le (pc := 8) 18 dk_Md_sold_8 (by decide) (fun c3 => ?_) (fun c3 => ?_)
    · refine rn_aload_n (pc := 18) 0 dk_Md_sold_18 rfl rfl rfl ?_
      refine cl_Md_201 (pc := 19) (As := []) (st := []) rfl (ct_Md_living X σ) (Nat.le_trans (Nat.le_of_ble_eq_true rfl) hF0) rfl rfl (Nat.le_of_ble_eq_true rfl) dk_Md_sold_19 (fun q4 => ?_)
      refine rn_istore_n (pc := 22) 2 dk_Md_sold_22 rfl rfl rfl ?_
      refine rn_iconst (pc := 23) (0 : Int32) dk_Md_sold_23 cn_i_0 ?_
      refine rn_istore_n (pc := 24) 3 dk_Md_sold_24 rfl rfl rfl ?_
      refine rn_sub (by rfl) (r_Md_sold_l25 X F hF0 _ (fun s11 => ?_) 400 p1 q4.1 (0 : Int32) q4.2)
      refine rn_iconst (pc := 68) (0 : Int32) dk_Md_sold_68 cn_i_0 ?_
      exact rn_iret rfl dk_Md_sold_69
    · refine rn_aload_n (pc := 11) 0 dk_Md_sold_11 rfl rfl rfl ?_
      refine rn_bipush (pc := 12) (-6 : Int32) dk_Md_sold_12 cn_b_m6 ?_
      refine cl_Md_97 (pc := 14) (As := [.int (-6 : Int32)]) (st := []) rfl (ct_Md_no X (-6 : Int32) σ) (Nat.le_trans (Nat.le_of_ble_eq_true rfl) hF0) rfl rfl (Nat.le_of_ble_eq_true rfl) dk_Md_sold_14 (fun q12 => ?_)
      exact rn_iret rfl dk_Md_sold_17
theorem dk_Md_stands0_0 : decode mi_Md_stands0.2.1 0 = .ok (.iconst (-1), 1) := by decide +kernel
theorem dk_Md_stands0_1 : decode mi_Md_stands0.2.1 1 = .ok (.istore_n 1, 1) := by decide +kernel
theorem dk_Md_stands0_2 : decode mi_Md_stands0.2.1 2 = .ok (.iconst 0, 1) := by decide +kernel
theorem dk_Md_stands0_3 : decode mi_Md_stands0.2.1 3 = .ok (.istore_n 2, 1) := by decide +kernel
theorem dk_Md_stands0_4 : decode mi_Md_stands0.2.1 4 = .ok (.iload_n 2, 1) := by decide +kernel
theorem dk_Md_stands0_5 : decode mi_Md_stands0.2.1 5 = .ok (.bipush 8, 2) := by decide +kernel
theorem dk_Md_stands0_7 : decode mi_Md_stands0.2.1 7 = .ok (.if_icmp .gt 23, 3) := by decide +kernel
theorem dk_Md_stands0_10 : decode mi_Md_stands0.2.1 10 = .ok (.aload_n 0, 1) := by decide +kernel
theorem dk_Md_stands0_11 : decode mi_Md_stands0.2.1 11 = .ok (.iload_n 2, 1) := by decide +kernel
theorem dk_Md_stands0_12 : decode mi_Md_stands0.2.1 12 = .ok (.aload_n 0, 1) := by decide +kernel
theorem dk_Md_stands0_13 : decode mi_Md_stands0.2.1 13 = .ok (.getfield 7, 3) := by decide +kernel
theorem dk_Md_stands0_16 : decode mi_Md_stands0.2.1 16 = .ok (.invokevirtual 208, 3) := by decide +kernel
theorem dk_Md_stands0_19 : decode mi_Md_stands0.2.1 19 = .ok (.ifCond .eq 5, 3) := by decide +kernel
theorem dk_Md_stands0_22 : decode mi_Md_stands0.2.1 22 = .ok (.iload_n 2, 1) := by decide +kernel
theorem dk_Md_stands0_23 : decode mi_Md_stands0.2.1 23 = .ok (.istore_n 1, 1) := by decide +kernel
theorem dk_Md_stands0_24 : decode mi_Md_stands0.2.1 24 = .ok (.iinc 2 1, 3) := by decide +kernel
theorem dk_Md_stands0_27 : decode mi_Md_stands0.2.1 27 = .ok (.goto (-23), 3) := by decide +kernel
theorem dk_Md_stands0_30 : decode mi_Md_stands0.2.1 30 = .ok (.iload_n 1, 1) := by decide +kernel
theorem dk_Md_stands0_31 : decode mi_Md_stands0.2.1 31 = .ok (.ireturn, 1) := by decide +kernel
def Md_stands0_l4 (k_30 : Int32 → nm_St → Option (Int32 × nm_St)) : Nat → Int32 → Int32 → nm_St → Option (Int32 × nm_St)
  | 0, _, _, _ => none
  | n + 1, x1, x2, σ =>
    (if (8 : Int32) < x2 then
      k_30 x1 σ
    else
      ((Md_standsWithout x2 (σ.1 70 1) σ).bind fun q2 =>
      (if q2.1 = 0 then
        (Md_stands0_l4 k_30 n) x1 (x2 + (1 : Int32)) q2.2
      else
        (Md_stands0_l4 k_30 n) x2 (x2 + (1 : Int32)) q2.2)))
set_option maxRecDepth 100000 in
set_option maxHeartbeats 4000000 in
theorem r_Md_stands0_l4 (X : nm_X) (F : nm_F) (hF0 : 3 ≤ nm_d F) (k_30 : Int32 → nm_St → Option (Int32 × nm_St)) (hk_30 : ∀ (x1 : Int32) (σ : nm_St), Rn X mi_Md_stands0 F (nm_Qf X F nm_wI) [(1, .int x1)] [] 30 σ (k_30 x1 σ)) : ∀ (n : Nat) (x1 : Int32) (x2 : Int32) (σ : nm_St), Rn X mi_Md_stands0 F (nm_Qf X F nm_wI) [(0, .ref 70), (1, .int x1), (2, .int x2)] [] 4 σ (Md_stands0_l4 k_30 n x1 x2 σ) := by
  intro n
  induction n with
  | zero =>
    intro x1 x2 σ
    exact rn_none
  | succ n ih =>
    intro x1 x2 σ
    unfold Md_stands0_l4
    refine rn_iload_n (pc := 4) 2 dk_Md_stands0_4 rfl rfl ?_
    refine rn_bipush (pc := 5) (8 : Int32) dk_Md_stands0_5 cn_b_8 ?_
    refine rn_icmp_gt (pc := 7) 30 dk_Md_stands0_7 (by decide) (fun c1 => ?_) (fun c1 => ?_)
    · exact rn_sub (by rfl) (hk_30 x1 σ)
    · refine rn_aload_n (pc := 10) 0 dk_Md_stands0_10 rfl rfl rfl ?_
      refine rn_iload_n (pc := 11) 2 dk_Md_stands0_11 rfl rfl ?_
      refine rn_aload_n (pc := 12) 0 dk_Md_stands0_12 rfl rfl rfl ?_
      refine gf_Md_7 (pc := 13) rfl dk_Md_stands0_13 ?_
      refine cl_Md_208 (pc := 16) (As := [.int x2, .int (σ.1 70 1)]) (st := []) rfl (ct_Md_standsWithout X x2 (σ.1 70 1) σ) (Nat.le_trans (Nat.le_of_ble_eq_true rfl) hF0) rfl rfl (Nat.le_of_ble_eq_true rfl) dk_Md_stands0_16 (fun q2 => ?_)
      refine rn_if_eq (pc := 19) 24 dk_Md_stands0_19 (by decide) (fun c3 => ?_) (fun c3 => ?_)
      · refine rn_iinc (pc := 24) (1 : Int32) dk_Md_stands0_24 cn_i_1 rfl rfl rfl ?_
        refine rn_goto (pc := 27) 4 dk_Md_stands0_27 (by decide) ?_
        exact rn_sub (by rfl) (ih x1 (x2 + (1 : Int32)) q2.2)
      · refine rn_iload_n (pc := 22) 2 dk_Md_stands0_22 rfl rfl ?_
        refine rn_istore_n (pc := 23) 1 dk_Md_stands0_23 rfl rfl rfl ?_
        refine rn_iinc (pc := 24) (1 : Int32) dk_Md_stands0_24 cn_i_1 rfl rfl rfl ?_
        refine rn_goto (pc := 27) 4 dk_Md_stands0_27 (by decide) ?_
        exact rn_sub (by rfl) (ih x2 (x2 + (1 : Int32)) q2.2)
def Md_stands0 (σ : nm_St) : Option (Int32 × nm_St) :=
  Md_stands0_l4 (fun (e5 : Int32) (s4 : nm_St) =>
    some (e5, s4)) 400 (-1 : Int32) (0 : Int32) σ
set_option maxRecDepth 100000 in
set_option maxHeartbeats 4000000 in
theorem ct_Md_stands0 (X : nm_X) (σ : nm_St) : Ct X mi_Md_stands0 3 nm_wI [.ref 70] σ (Md_stands0 σ) := by
  refine Ct.of (by decide +kernel) rfl (fun F hF0 => ?_)
  unfold Md_stands0
  refine rn_iconst (pc := 0) (-1 : Int32) dk_Md_stands0_0 cn_i_m1 ?_
  refine rn_istore_n (pc := 1) 1 dk_Md_stands0_1 rfl rfl rfl ?_
  refine rn_iconst (pc := 2) (0 : Int32) dk_Md_stands0_2 cn_i_0 ?_
  refine rn_istore_n (pc := 3) 2 dk_Md_stands0_3 rfl rfl rfl ?_
  refine rn_sub (by rfl) (r_Md_stands0_l4 X F hF0 _ (fun e5 s4 => ?_) 400 (-1 : Int32) (0 : Int32) σ)
  refine rn_iload_n (pc := 30) 1 dk_Md_stands0_30 rfl rfl ?_
  exact rn_iret rfl dk_Md_stands0_31
theorem dk_Md_lessons_0 : decode mi_Md_lessons.2.1 0 = .ok (.iload_n 1, 1) := by decide +kernel
theorem dk_Md_lessons_1 : decode mi_Md_lessons.2.1 1 = .ok (.ifCond .lt 9, 3) := by decide +kernel
theorem dk_Md_lessons_4 : decode mi_Md_lessons.2.1 4 = .ok (.iload_n 1, 1) := by decide +kernel
theorem dk_Md_lessons_5 : decode mi_Md_lessons.2.1 5 = .ok (.bipush 8, 2) := by decide +kernel
theorem dk_Md_lessons_7 : decode mi_Md_lessons.2.1 7 = .ok (.if_icmp .le 10, 3) := by decide +kernel
theorem dk_Md_lessons_10 : decode mi_Md_lessons.2.1 10 = .ok (.aload_n 0, 1) := by decide +kernel
theorem dk_Md_lessons_11 : decode mi_Md_lessons.2.1 11 = .ok (.bipush (-6), 2) := by decide +kernel
theorem dk_Md_lessons_13 : decode mi_Md_lessons.2.1 13 = .ok (.invokevirtual 195, 3) := by decide +kernel
theorem dk_Md_lessons_16 : decode mi_Md_lessons.2.1 16 = .ok (.ireturn, 1) := by decide +kernel
theorem dk_Md_lessons_17 : decode mi_Md_lessons.2.1 17 = .ok (.aload_n 0, 1) := by decide +kernel
theorem dk_Md_lessons_18 : decode mi_Md_lessons.2.1 18 = .ok (.iconst 0, 1) := by decide +kernel
theorem dk_Md_lessons_19 : decode mi_Md_lessons.2.1 19 = .ok (.invokevirtual 183, 3) := by decide +kernel
theorem dk_Md_lessons_22 : decode mi_Md_lessons.2.1 22 = .ok (.istore_n 2, 1) := by decide +kernel
theorem dk_Md_lessons_23 : decode mi_Md_lessons.2.1 23 = .ok (.iconst 0, 1) := by decide +kernel
theorem dk_Md_lessons_24 : decode mi_Md_lessons.2.1 24 = .ok (.istore_n 3, 1) := by decide +kernel
theorem dk_Md_lessons_25 : decode mi_Md_lessons.2.1 25 = .ok (.aload_n 0, 1) := by decide +kernel
theorem dk_Md_lessons_26 : decode mi_Md_lessons.2.1 26 = .ok (.iload_n 2, 1) := by decide +kernel
theorem dk_Md_lessons_27 : decode mi_Md_lessons.2.1 27 = .ok (.invokevirtual 189, 3) := by decide +kernel
theorem dk_Md_lessons_30 : decode mi_Md_lessons.2.1 30 = .ok (.iload_n 1, 1) := by decide +kernel
theorem dk_Md_lessons_31 : decode mi_Md_lessons.2.1 31 = .ok (.iconst 1, 1) := by decide +kernel
theorem dk_Md_lessons_32 : decode mi_Md_lessons.2.1 32 = .ok (.iadd, 1) := by decide +kernel
theorem dk_Md_lessons_33 : decode mi_Md_lessons.2.1 33 = .ok (.if_icmp .ge 5, 3) := by decide +kernel
theorem dk_Md_lessons_36 : decode mi_Md_lessons.2.1 36 = .ok (.iconst (-1), 1) := by decide +kernel
theorem dk_Md_lessons_37 : decode mi_Md_lessons.2.1 37 = .ok (.ireturn, 1) := by decide +kernel
theorem dk_Md_lessons_38 : decode mi_Md_lessons.2.1 38 = .ok (.iconst 0, 1) := by decide +kernel
theorem dk_Md_lessons_39 : decode mi_Md_lessons.2.1 39 = .ok (.istore 4, 2) := by decide +kernel
theorem dk_Md_lessons_41 : decode mi_Md_lessons.2.1 41 = .ok (.iload 4, 2) := by decide +kernel
theorem dk_Md_lessons_43 : decode mi_Md_lessons.2.1 43 = .ok (.aload_n 0, 1) := by decide +kernel
theorem dk_Md_lessons_44 : decode mi_Md_lessons.2.1 44 = .ok (.getfield 7, 3) := by decide +kernel
theorem dk_Md_lessons_47 : decode mi_Md_lessons.2.1 47 = .ok (.if_icmp .ge 44, 3) := by decide +kernel
theorem dk_Md_lessons_50 : decode mi_Md_lessons.2.1 50 = .ok (.aload_n 0, 1) := by decide +kernel
theorem dk_Md_lessons_51 : decode mi_Md_lessons.2.1 51 = .ok (.iload 4, 2) := by decide +kernel
theorem dk_Md_lessons_53 : decode mi_Md_lessons.2.1 53 = .ok (.iload_n 2, 1) := by decide +kernel
theorem dk_Md_lessons_54 : decode mi_Md_lessons.2.1 54 = .ok (.invokevirtual 204, 3) := by decide +kernel
theorem dk_Md_lessons_57 : decode mi_Md_lessons.2.1 57 = .ok (.istore 5, 2) := by decide +kernel
theorem dk_Md_lessons_59 : decode mi_Md_lessons.2.1 59 = .ok (.iload 5, 2) := by decide +kernel
theorem dk_Md_lessons_61 : decode mi_Md_lessons.2.1 61 = .ok (.ifCond .ne 5, 3) := by decide +kernel
theorem dk_Md_lessons_64 : decode mi_Md_lessons.2.1 64 = .ok (.iconst (-1), 1) := by decide +kernel
theorem dk_Md_lessons_65 : decode mi_Md_lessons.2.1 65 = .ok (.ireturn, 1) := by decide +kernel
theorem dk_Md_lessons_66 : decode mi_Md_lessons.2.1 66 = .ok (.iload_n 3, 1) := by decide +kernel
theorem dk_Md_lessons_67 : decode mi_Md_lessons.2.1 67 = .ok (.iload 5, 2) := by decide +kernel
theorem dk_Md_lessons_69 : decode mi_Md_lessons.2.1 69 = .ok (.iload_n 1, 1) := by decide +kernel
theorem dk_Md_lessons_70 : decode mi_Md_lessons.2.1 70 = .ok (.if_icmp .le 7, 3) := by decide +kernel
theorem dk_Md_lessons_73 : decode mi_Md_lessons.2.1 73 = .ok (.iconst 0, 1) := by decide +kernel
theorem dk_Md_lessons_74 : decode mi_Md_lessons.2.1 74 = .ok (.goto 9, 3) := by decide +kernel
theorem dk_Md_lessons_77 : decode mi_Md_lessons.2.1 77 = .ok (.iload_n 1, 1) := by decide +kernel
theorem dk_Md_lessons_78 : decode mi_Md_lessons.2.1 78 = .ok (.iconst 1, 1) := by decide +kernel
theorem dk_Md_lessons_79 : decode mi_Md_lessons.2.1 79 = .ok (.iadd, 1) := by decide +kernel
theorem dk_Md_lessons_80 : decode mi_Md_lessons.2.1 80 = .ok (.iload 5, 2) := by decide +kernel
theorem dk_Md_lessons_82 : decode mi_Md_lessons.2.1 82 = .ok (.isub, 1) := by decide +kernel
theorem dk_Md_lessons_83 : decode mi_Md_lessons.2.1 83 = .ok (.iadd, 1) := by decide +kernel
theorem dk_Md_lessons_84 : decode mi_Md_lessons.2.1 84 = .ok (.istore_n 3, 1) := by decide +kernel
theorem dk_Md_lessons_85 : decode mi_Md_lessons.2.1 85 = .ok (.iinc 4 1, 3) := by decide +kernel
theorem dk_Md_lessons_88 : decode mi_Md_lessons.2.1 88 = .ok (.goto (-47), 3) := by decide +kernel
theorem dk_Md_lessons_91 : decode mi_Md_lessons.2.1 91 = .ok (.iload_n 3, 1) := by decide +kernel
theorem dk_Md_lessons_92 : decode mi_Md_lessons.2.1 92 = .ok (.ireturn, 1) := by decide +kernel
def Md_lessons_l41 (k_91 : Int32 → nm_St → Option (Int32 × nm_St)) : Nat → Int32 → Int32 → Int32 → Int32 → nm_St → Option (Int32 × nm_St)
  | 0, _, _, _, _, _ => none
  | n + 1, x1, x2, x3, x4, σ =>
    (if (σ.1 70 1) ≤ x4 then
      k_91 x3 σ
    else
      ((Md_owners x4 x2 σ).bind fun q8 =>
      (if q8.1 = 0 then
        some ((-1 : Int32), q8.2)
      else
        (if q8.1 ≤ x1 then
          (nm_let ((x3 + ((x1 + (1 : Int32)) - q8.1))) fun v11 =>
          (Md_lessons_l41 k_91 n) x1 x2 v11 (x4 + (1 : Int32)) q8.2)
        else
          (nm_let ((x3 + (0 : Int32))) fun v12 =>
          (Md_lessons_l41 k_91 n) x1 x2 v12 (x4 + (1 : Int32)) q8.2)))))
set_option maxRecDepth 100000 in
set_option maxHeartbeats 4000000 in
theorem r_Md_lessons_l41 (X : nm_X) (F : nm_F) (hF0 : 2 ≤ nm_d F) (k_91 : Int32 → nm_St → Option (Int32 × nm_St)) (hk_91 : ∀ (x3 : Int32) (σ : nm_St), Rn X mi_Md_lessons F (nm_Qf X F nm_wI) [(3, .int x3)] [] 91 σ (k_91 x3 σ)) : ∀ (n : Nat) (x1 : Int32) (x2 : Int32) (x3 : Int32) (x4 : Int32) (σ : nm_St), Rn X mi_Md_lessons F (nm_Qf X F nm_wI) [(0, .ref 70), (1, .int x1), (2, .int x2), (3, .int x3), (4, .int x4)] [] 41 σ (Md_lessons_l41 k_91 n x1 x2 x3 x4 σ) := by
  intro n
  induction n with
  | zero =>
    intro x1 x2 x3 x4 σ
    exact rn_none
  | succ n ih =>
    intro x1 x2 x3 x4 σ
    unfold Md_lessons_l41
    refine rn_iload (pc := 41) dk_Md_lessons_41 rfl ?_
    refine rn_aload_n (pc := 43) 0 dk_Md_lessons_43 rfl rfl rfl ?_
    refine gf_Md_7 (pc := 44) rfl dk_Md_lessons_44 ?_
    refine rn_icmp_ge (pc := 47) 91 dk_Md_lessons_47 (by decide) (fun c7 => ?_) (fun c7 => ?_)
    · exact rn_sub (by rfl) (hk_91 x3 σ)
    · refine rn_aload_n (pc := 50) 0 dk_Md_lessons_50 rfl rfl rfl ?_
      refine rn_iload (pc := 51) dk_Md_lessons_51 rfl ?_
      refine rn_iload_n (pc := 53) 2 dk_Md_lessons_53 rfl rfl ?_
      refine cl_Md_204 (pc := 54) (As := [.int x4, .int x2]) (st := []) rfl (ct_Md_owners X x4 x2 σ) (Nat.le_trans (Nat.le_of_ble_eq_true rfl) hF0) rfl rfl (Nat.le_of_ble_eq_true rfl) dk_Md_lessons_54 (fun q8 => ?_)
      refine rn_istore (pc := 57) dk_Md_lessons_57 rfl rfl ?_
      refine rn_iload (pc := 59) dk_Md_lessons_59 rfl ?_
      refine rn_if_ne (pc := 61) 66 dk_Md_lessons_61 (by decide) (fun c9 => ?_) (fun c9 => ?_)
      · refine rn_iload_n (pc := 66) 3 dk_Md_lessons_66 rfl rfl ?_
        refine rn_iload (pc := 67) dk_Md_lessons_67 rfl ?_
        refine rn_iload_n (pc := 69) 1 dk_Md_lessons_69 rfl rfl ?_
        refine rn_icmp_le (pc := 70) 77 dk_Md_lessons_70 (by decide) (fun c10 => ?_) (fun c10 => ?_)
        · refine rn_iload_n (pc := 77) 1 dk_Md_lessons_77 rfl rfl ?_
          refine rn_iconst (pc := 78) (1 : Int32) dk_Md_lessons_78 cn_i_1 ?_
          refine rn_iadd (pc := 79) dk_Md_lessons_79 ?_
          refine rn_iload (pc := 80) dk_Md_lessons_80 rfl ?_
          refine rn_isub (pc := 82) dk_Md_lessons_82 ?_
          refine rn_iadd (pc := 83) dk_Md_lessons_83 ?_
          refine rn_leti (fun v11 => ?_)
          refine rn_istore_n (pc := 84) 3 dk_Md_lessons_84 rfl rfl rfl ?_
          refine rn_iinc (pc := 85) (1 : Int32) dk_Md_lessons_85 cn_i_1 rfl rfl rfl ?_
          refine rn_goto (pc := 88) 41 dk_Md_lessons_88 (by decide) ?_
          exact rn_sub (by rfl) (ih x1 x2 v11 (x4 + (1 : Int32)) q8.2)
        · refine rn_iconst (pc := 73) (0 : Int32) dk_Md_lessons_73 cn_i_0 ?_
          refine rn_goto (pc := 74) 83 dk_Md_lessons_74 (by decide) ?_
          refine rn_iadd (pc := 83) dk_Md_lessons_83 ?_
          refine rn_leti (fun v12 => ?_)
          refine rn_istore_n (pc := 84) 3 dk_Md_lessons_84 rfl rfl rfl ?_
          refine rn_iinc (pc := 85) (1 : Int32) dk_Md_lessons_85 cn_i_1 rfl rfl rfl ?_
          refine rn_goto (pc := 88) 41 dk_Md_lessons_88 (by decide) ?_
          exact rn_sub (by rfl) (ih x1 x2 v12 (x4 + (1 : Int32)) q8.2)
      · refine rn_iconst (pc := 64) (-1 : Int32) dk_Md_lessons_64 cn_i_m1 ?_
        exact rn_iret rfl dk_Md_lessons_65
def Md_lessons (p1 : Int32) (σ : nm_St) : Option (Int32 × nm_St) :=
  (if p1 < 0 then
    ((Md_noTen (-6 : Int32) σ).bind fun q2 =>
    some (q2.1, q2.2))
  else
    (if p1 ≤ (8 : Int32) then
      ((Md_those (0 : Int32) σ).bind fun q4 =>
      ((Md_ones q4.1 q4.2).bind fun q5 =>
      (if (p1 + (1 : Int32)) ≤ q5.1 then
        Md_lessons_l41 (fun (e14 : Int32) (s13 : nm_St) =>
          some (e14, s13)) 400 p1 q4.1 (0 : Int32) (0 : Int32) q5.2
      else
        some ((-1 : Int32), q5.2))))
    else
      ((Md_noTen (-6 : Int32) σ).bind fun q15 =>
      some (q15.1, q15.2))))
set_option maxRecDepth 100000 in
set_option maxHeartbeats 4000000 in
theorem ct_Md_lessons (X : nm_X) (p1 : Int32) (σ : nm_St) : Ct X mi_Md_lessons 2 nm_wI [.ref 70, .int p1] σ (Md_lessons p1 σ) := by
  refine Ct.of (by decide +kernel) rfl (fun F hF0 => ?_)
  unfold Md_lessons
  refine rn_iload_n (pc := 0) 1 dk_Md_lessons_0 rfl rfl ?_
  refine rn_if_lt (pc := 1) 10 dk_Md_lessons_1 (by decide) (fun c1 => ?_) (fun c1 => ?_)
  · refine rn_aload_n (pc := 10) 0 dk_Md_lessons_10 rfl rfl rfl ?_
    refine rn_bipush (pc := 11) (-6 : Int32) dk_Md_lessons_11 cn_b_m6 ?_
    refine cl_Md_195 (pc := 13) (As := [.int (-6 : Int32)]) (st := []) rfl (ct_Md_noTen X (-6 : Int32) σ) (Nat.le_trans (Nat.le_of_ble_eq_true rfl) hF0) rfl rfl (Nat.le_of_ble_eq_true rfl) dk_Md_lessons_13 (fun q2 => ?_)
    exact rn_iret rfl dk_Md_lessons_16
  · refine rn_iload_n (pc := 4) 1 dk_Md_lessons_4 rfl rfl ?_
    refine rn_bipush (pc := 5) (8 : Int32) dk_Md_lessons_5 cn_b_8 ?_
    refine rn_icmp_le (pc := 7) 17 dk_Md_lessons_7 (by decide) (fun c3 => ?_) (fun c3 => ?_)
    · refine rn_aload_n (pc := 17) 0 dk_Md_lessons_17 rfl rfl rfl ?_
      refine rn_iconst (pc := 18) (0 : Int32) dk_Md_lessons_18 cn_i_0 ?_
      refine cl_Md_183 (pc := 19) (As := [.int (0 : Int32)]) (st := []) rfl (ct_Md_those X (0 : Int32) σ) (Nat.le_trans (Nat.le_of_ble_eq_true rfl) hF0) rfl rfl (Nat.le_of_ble_eq_true rfl) dk_Md_lessons_19 (fun q4 => ?_)
      refine rn_istore_n (pc := 22) 2 dk_Md_lessons_22 rfl rfl rfl ?_
      refine rn_iconst (pc := 23) (0 : Int32) dk_Md_lessons_23 cn_i_0 ?_
      refine rn_istore_n (pc := 24) 3 dk_Md_lessons_24 rfl rfl rfl ?_
      refine rn_aload_n (pc := 25) 0 dk_Md_lessons_25 rfl rfl rfl ?_
      refine rn_iload_n (pc := 26) 2 dk_Md_lessons_26 rfl rfl ?_
      refine cl_Md_189 (pc := 27) (As := [.int q4.1]) (st := []) rfl (ct_Md_ones X q4.1 q4.2) (Nat.le_trans (Nat.le_of_ble_eq_true rfl) hF0) rfl rfl (Nat.le_of_ble_eq_true rfl) dk_Md_lessons_27 (fun q5 => ?_)
      refine rn_iload_n (pc := 30) 1 dk_Md_lessons_30 rfl rfl ?_
      refine rn_iconst (pc := 31) (1 : Int32) dk_Md_lessons_31 cn_i_1 ?_
      refine rn_iadd (pc := 32) dk_Md_lessons_32 ?_
      refine rn_icmp_ge (pc := 33) 38 dk_Md_lessons_33 (by decide) (fun c6 => ?_) (fun c6 => ?_)
      · refine rn_iconst (pc := 38) (0 : Int32) dk_Md_lessons_38 cn_i_0 ?_
        refine rn_istore (pc := 39) dk_Md_lessons_39 rfl rfl ?_
        refine rn_sub (by rfl) (r_Md_lessons_l41 X F hF0 _ (fun e14 s13 => ?_) 400 p1 q4.1 (0 : Int32) (0 : Int32) q5.2)
        refine rn_iload_n (pc := 91) 3 dk_Md_lessons_91 rfl rfl ?_
        exact rn_iret rfl dk_Md_lessons_92
      · refine rn_iconst (pc := 36) (-1 : Int32) dk_Md_lessons_36 cn_i_m1 ?_
        exact rn_iret rfl dk_Md_lessons_37
    · refine rn_aload_n (pc := 10) 0 dk_Md_lessons_10 rfl rfl rfl ?_
      refine rn_bipush (pc := 11) (-6 : Int32) dk_Md_lessons_11 cn_b_m6 ?_
      refine cl_Md_195 (pc := 13) (As := [.int (-6 : Int32)]) (st := []) rfl (ct_Md_noTen X (-6 : Int32) σ) (Nat.le_trans (Nat.le_of_ble_eq_true rfl) hF0) rfl rfl (Nat.le_of_ble_eq_true rfl) dk_Md_lessons_13 (fun q15 => ?_)
      exact rn_iret rfl dk_Md_lessons_16
theorem dk_Md_offer_0 : decode mi_Md_offer.2.1 0 = .ok (.iload_n 1, 1) := by decide +kernel
theorem dk_Md_offer_1 : decode mi_Md_offer.2.1 1 = .ok (.ifCond .lt 10, 3) := by decide +kernel
theorem dk_Md_offer_4 : decode mi_Md_offer.2.1 4 = .ok (.iload_n 1, 1) := by decide +kernel
theorem dk_Md_offer_5 : decode mi_Md_offer.2.1 5 = .ok (.sipush 999, 3) := by decide +kernel
theorem dk_Md_offer_8 : decode mi_Md_offer.2.1 8 = .ok (.if_icmp .le 10, 3) := by decide +kernel
theorem dk_Md_offer_11 : decode mi_Md_offer.2.1 11 = .ok (.aload_n 0, 1) := by decide +kernel
theorem dk_Md_offer_12 : decode mi_Md_offer.2.1 12 = .ok (.bipush (-6), 2) := by decide +kernel
theorem dk_Md_offer_14 : decode mi_Md_offer.2.1 14 = .ok (.invokevirtual 97, 3) := by decide +kernel
theorem dk_Md_offer_17 : decode mi_Md_offer.2.1 17 = .ok (.ireturn, 1) := by decide +kernel
theorem dk_Md_offer_18 : decode mi_Md_offer.2.1 18 = .ok (.iconst 0, 1) := by decide +kernel
theorem dk_Md_offer_19 : decode mi_Md_offer.2.1 19 = .ok (.istore_n 2, 1) := by decide +kernel
theorem dk_Md_offer_20 : decode mi_Md_offer.2.1 20 = .ok (.iconst 0, 1) := by decide +kernel
theorem dk_Md_offer_21 : decode mi_Md_offer.2.1 21 = .ok (.istore_n 3, 1) := by decide +kernel
theorem dk_Md_offer_22 : decode mi_Md_offer.2.1 22 = .ok (.iload_n 3, 1) := by decide +kernel
theorem dk_Md_offer_23 : decode mi_Md_offer.2.1 23 = .ok (.aload_n 0, 1) := by decide +kernel
theorem dk_Md_offer_24 : decode mi_Md_offer.2.1 24 = .ok (.getfield 90, 3) := by decide +kernel
theorem dk_Md_offer_27 : decode mi_Md_offer.2.1 27 = .ok (.if_icmp .ge 33, 3) := by decide +kernel
theorem dk_Md_offer_30 : decode mi_Md_offer.2.1 30 = .ok (.aload_n 0, 1) := by decide +kernel
theorem dk_Md_offer_31 : decode mi_Md_offer.2.1 31 = .ok (.getfield 41, 3) := by decide +kernel
theorem dk_Md_offer_34 : decode mi_Md_offer.2.1 34 = .ok (.iload_n 3, 1) := by decide +kernel
theorem dk_Md_offer_35 : decode mi_Md_offer.2.1 35 = .ok (.iaload, 1) := by decide +kernel
theorem dk_Md_offer_36 : decode mi_Md_offer.2.1 36 = .ok (.ifCond .ne 18, 3) := by decide +kernel
theorem dk_Md_offer_39 : decode mi_Md_offer.2.1 39 = .ok (.iload_n 1, 1) := by decide +kernel
theorem dk_Md_offer_40 : decode mi_Md_offer.2.1 40 = .ok (.aload_n 0, 1) := by decide +kernel
theorem dk_Md_offer_41 : decode mi_Md_offer.2.1 41 = .ok (.iload_n 3, 1) := by decide +kernel
theorem dk_Md_offer_42 : decode mi_Md_offer.2.1 42 = .ok (.invokevirtual 107, 3) := by decide +kernel
theorem dk_Md_offer_45 : decode mi_Md_offer.2.1 45 = .ok (.if_icmp .lt 9, 3) := by decide +kernel
theorem dk_Md_offer_48 : decode mi_Md_offer.2.1 48 = .ok (.iload_n 2, 1) := by decide +kernel
theorem dk_Md_offer_49 : decode mi_Md_offer.2.1 49 = .ok (.iconst 1, 1) := by decide +kernel
theorem dk_Md_offer_50 : decode mi_Md_offer.2.1 50 = .ok (.iload_n 3, 1) := by decide +kernel
theorem dk_Md_offer_51 : decode mi_Md_offer.2.1 51 = .ok (.ishl, 1) := by decide +kernel
theorem dk_Md_offer_52 : decode mi_Md_offer.2.1 52 = .ok (.ior, 1) := by decide +kernel
theorem dk_Md_offer_53 : decode mi_Md_offer.2.1 53 = .ok (.istore_n 2, 1) := by decide +kernel
theorem dk_Md_offer_54 : decode mi_Md_offer.2.1 54 = .ok (.iinc 3 1, 3) := by decide +kernel
theorem dk_Md_offer_57 : decode mi_Md_offer.2.1 57 = .ok (.goto (-35), 3) := by decide +kernel
theorem dk_Md_offer_60 : decode mi_Md_offer.2.1 60 = .ok (.iload_n 2, 1) := by decide +kernel
theorem dk_Md_offer_61 : decode mi_Md_offer.2.1 61 = .ok (.ireturn, 1) := by decide +kernel
def Md_offer_l22 (k_60 : Int32 → nm_St → Option (Int32 × nm_St)) : Nat → Int32 → Int32 → Int32 → nm_St → Option (Int32 × nm_St)
  | 0, _, _, _, _ => none
  | n + 1, x1, x2, x3, σ =>
    (if (σ.1 70 0) ≤ x3 then
      k_60 x2 σ
    else
      (nm_g (nm_in x3 8) (
      (if (σ.1 77 x3.toNatClampNeg) = 0 then
        ((Md_price x3 σ).bind fun q7 =>
        (if x1 < q7.1 then
          (Md_offer_l22 k_60 n) x1 x2 (x3 + (1 : Int32)) q7.2
        else
          (nm_let ((x2 ||| ((1 : Int32) <<< (x3 &&& 31)))) fun v9 =>
          (Md_offer_l22 k_60 n) x1 v9 (x3 + (1 : Int32)) q7.2)))
      else
        (Md_offer_l22 k_60 n) x1 x2 (x3 + (1 : Int32)) σ))))
set_option maxRecDepth 100000 in
set_option maxHeartbeats 4000000 in
theorem r_Md_offer_l22 (X : nm_X) (F : nm_F) (hF0 : 3 ≤ nm_d F) (k_60 : Int32 → nm_St → Option (Int32 × nm_St)) (hk_60 : ∀ (x2 : Int32) (σ : nm_St), Rn X mi_Md_offer F (nm_Qf X F nm_wI) [(2, .int x2)] [] 60 σ (k_60 x2 σ)) : ∀ (n : Nat) (x1 : Int32) (x2 : Int32) (x3 : Int32) (σ : nm_St), Rn X mi_Md_offer F (nm_Qf X F nm_wI) [(0, .ref 70), (1, .int x1), (2, .int x2), (3, .int x3)] [] 22 σ (Md_offer_l22 k_60 n x1 x2 x3 σ) := by
  intro n
  induction n with
  | zero =>
    intro x1 x2 x3 σ
    exact rn_none
  | succ n ih =>
    intro x1 x2 x3 σ
    unfold Md_offer_l22
    refine rn_iload_n (pc := 22) 3 dk_Md_offer_22 rfl rfl ?_
    refine rn_aload_n (pc := 23) 0 dk_Md_offer_23 rfl rfl rfl ?_
    refine gf_Md_90 (pc := 24) rfl dk_Md_offer_24 ?_
    refine rn_icmp_ge (pc := 27) 60 dk_Md_offer_27 (by decide) (fun c4 => ?_) (fun c4 => ?_)
    · exact rn_sub (by rfl) (hk_60 x2 σ)
    · refine rn_aload_n (pc := 30) 0 dk_Md_offer_30 rfl rfl rfl ?_
      refine gf_Md_41 (pc := 31) rfl dk_Md_offer_31 ?_
      refine rn_iload_n (pc := 34) 3 dk_Md_offer_34 rfl rfl ?_
      refine rn_iaload (pc := 35) rfl dk_Md_offer_35 (fun g5 => ?_)
      refine rn_if_ne (pc := 36) 54 dk_Md_offer_36 (by decide) (fun c6 => ?_) (fun c6 => ?_)
      · refine rn_iinc (pc := 54) (1 : Int32) dk_Md_offer_54 cn_i_1 rfl rfl rfl ?_
        refine rn_goto (pc := 57) 22 dk_Md_offer_57 (by decide) ?_
        exact rn_sub (by rfl) (ih x1 x2 (x3 + (1 : Int32)) σ)
      · refine rn_iload_n (pc := 39) 1 dk_Md_offer_39 rfl rfl ?_
        refine rn_aload_n (pc := 40) 0 dk_Md_offer_40 rfl rfl rfl ?_
        refine rn_iload_n (pc := 41) 3 dk_Md_offer_41 rfl rfl ?_
        refine cl_Md_107 (pc := 42) (As := [.int x3]) (st := [.int x1]) rfl (ct_Md_price X x3 σ) (Nat.le_trans (Nat.le_of_ble_eq_true rfl) hF0) rfl rfl (Nat.le_of_ble_eq_true rfl) dk_Md_offer_42 (fun q7 => ?_)
        refine rn_icmp_lt (pc := 45) 54 dk_Md_offer_45 (by decide) (fun c8 => ?_) (fun c8 => ?_)
        · refine rn_iinc (pc := 54) (1 : Int32) dk_Md_offer_54 cn_i_1 rfl rfl rfl ?_
          refine rn_goto (pc := 57) 22 dk_Md_offer_57 (by decide) ?_
          exact rn_sub (by rfl) (ih x1 x2 (x3 + (1 : Int32)) q7.2)
        · refine rn_iload_n (pc := 48) 2 dk_Md_offer_48 rfl rfl ?_
          refine rn_iconst (pc := 49) (1 : Int32) dk_Md_offer_49 cn_i_1 ?_
          refine rn_iload_n (pc := 50) 3 dk_Md_offer_50 rfl rfl ?_
          refine rn_ishl (pc := 51) dk_Md_offer_51 ?_
          refine rn_ior (pc := 52) dk_Md_offer_52 ?_
          refine rn_leti (fun v9 => ?_)
          refine rn_istore_n (pc := 53) 2 dk_Md_offer_53 rfl rfl rfl ?_
          refine rn_iinc (pc := 54) (1 : Int32) dk_Md_offer_54 cn_i_1 rfl rfl rfl ?_
          refine rn_goto (pc := 57) 22 dk_Md_offer_57 (by decide) ?_
          exact rn_sub (by rfl) (ih x1 v9 (x3 + (1 : Int32)) q7.2)
def Md_offer (p1 : Int32) (σ : nm_St) : Option (Int32 × nm_St) :=
  (if p1 < 0 then
    ((Md_no (-6 : Int32) σ).bind fun q2 =>
    some (q2.1, q2.2))
  else
    (if p1 ≤ (999 : Int32) then
      Md_offer_l22 (fun (e11 : Int32) (s10 : nm_St) =>
        some (e11, s10)) 400 p1 (0 : Int32) (0 : Int32) σ
    else
      ((Md_no (-6 : Int32) σ).bind fun q12 =>
      some (q12.1, q12.2))))
set_option maxRecDepth 100000 in
set_option maxHeartbeats 4000000 in
theorem ct_Md_offer (X : nm_X) (p1 : Int32) (σ : nm_St) : Ct X mi_Md_offer 3 nm_wI [.ref 70, .int p1] σ (Md_offer p1 σ) := by
  refine Ct.of (by decide +kernel) rfl (fun F hF0 => ?_)
  unfold Md_offer
  refine rn_iload_n (pc := 0) 1 dk_Md_offer_0 rfl rfl ?_
  refine rn_if_lt (pc := 1) 11 dk_Md_offer_1 (by decide) (fun c1 => ?_) (fun c1 => ?_)
  · refine rn_aload_n (pc := 11) 0 dk_Md_offer_11 rfl rfl rfl ?_
    refine rn_bipush (pc := 12) (-6 : Int32) dk_Md_offer_12 cn_b_m6 ?_
    refine cl_Md_97 (pc := 14) (As := [.int (-6 : Int32)]) (st := []) rfl (ct_Md_no X (-6 : Int32) σ) (Nat.le_trans (Nat.le_of_ble_eq_true rfl) hF0) rfl rfl (Nat.le_of_ble_eq_true rfl) dk_Md_offer_14 (fun q2 => ?_)
    exact rn_iret rfl dk_Md_offer_17
  · refine rn_iload_n (pc := 4) 1 dk_Md_offer_4 rfl rfl ?_
    refine rn_sipush (pc := 5) (999 : Int32) dk_Md_offer_5 cn_s_999 ?_
    refine rn_icmp_le (pc := 8) 18 dk_Md_offer_8 (by decide) (fun c3 => ?_) (fun c3 => ?_)
    · refine rn_iconst (pc := 18) (0 : Int32) dk_Md_offer_18 cn_i_0 ?_
      refine rn_istore_n (pc := 19) 2 dk_Md_offer_19 rfl rfl rfl ?_
      refine rn_iconst (pc := 20) (0 : Int32) dk_Md_offer_20 cn_i_0 ?_
      refine rn_istore_n (pc := 21) 3 dk_Md_offer_21 rfl rfl rfl ?_
      refine rn_sub (by rfl) (r_Md_offer_l22 X F hF0 _ (fun e11 s10 => ?_) 400 p1 (0 : Int32) (0 : Int32) σ)
      refine rn_iload_n (pc := 60) 2 dk_Md_offer_60 rfl rfl ?_
      exact rn_iret rfl dk_Md_offer_61
    · refine rn_aload_n (pc := 11) 0 dk_Md_offer_11 rfl rfl rfl ?_
      refine rn_bipush (pc := 12) (-6 : Int32) dk_Md_offer_12 cn_b_m6 ?_
      refine cl_Md_97 (pc := 14) (As := [.int (-6 : Int32)]) (st := []) rfl (ct_Md_no X (-6 : Int32) σ) (Nat.le_trans (Nat.le_of_ble_eq_true rfl) hF0) rfl rfl (Nat.le_of_ble_eq_true rfl) dk_Md_offer_14 (fun q12 => ?_)
      exact rn_iret rfl dk_Md_offer_17
theorem dk_Md_spend_0 : decode mi_Md_spend.2.1 0 = .ok (.aload_n 0, 1) := by decide +kernel
theorem dk_Md_spend_1 : decode mi_Md_spend.2.1 1 = .ok (.iconst 0, 1) := by decide +kernel
theorem dk_Md_spend_2 : decode mi_Md_spend.2.1 2 = .ok (.invokevirtual 183, 3) := by decide +kernel
theorem dk_Md_spend_5 : decode mi_Md_spend.2.1 5 = .ok (.istore_n 1, 1) := by decide +kernel
theorem dk_Md_spend_6 : decode mi_Md_spend.2.1 6 = .ok (.aload_n 0, 1) := by decide +kernel
theorem dk_Md_spend_7 : decode mi_Md_spend.2.1 7 = .ok (.iconst 1, 1) := by decide +kernel
theorem dk_Md_spend_8 : decode mi_Md_spend.2.1 8 = .ok (.invokevirtual 183, 3) := by decide +kernel
theorem dk_Md_spend_11 : decode mi_Md_spend.2.1 11 = .ok (.istore_n 2, 1) := by decide +kernel
theorem dk_Md_spend_12 : decode mi_Md_spend.2.1 12 = .ok (.iconst 0, 1) := by decide +kernel
theorem dk_Md_spend_13 : decode mi_Md_spend.2.1 13 = .ok (.istore_n 3, 1) := by decide +kernel
theorem dk_Md_spend_14 : decode mi_Md_spend.2.1 14 = .ok (.iconst (-1), 1) := by decide +kernel
theorem dk_Md_spend_15 : decode mi_Md_spend.2.1 15 = .ok (.istore 4, 2) := by decide +kernel
theorem dk_Md_spend_17 : decode mi_Md_spend.2.1 17 = .ok (.iconst 0, 1) := by decide +kernel
theorem dk_Md_spend_18 : decode mi_Md_spend.2.1 18 = .ok (.istore 5, 2) := by decide +kernel
theorem dk_Md_spend_20 : decode mi_Md_spend.2.1 20 = .ok (.iconst 0, 1) := by decide +kernel
theorem dk_Md_spend_21 : decode mi_Md_spend.2.1 21 = .ok (.istore 6, 2) := by decide +kernel
theorem dk_Md_spend_23 : decode mi_Md_spend.2.1 23 = .ok (.iload 6, 2) := by decide +kernel
theorem dk_Md_spend_25 : decode mi_Md_spend.2.1 25 = .ok (.iconst 1, 1) := by decide +kernel
theorem dk_Md_spend_26 : decode mi_Md_spend.2.1 26 = .ok (.aload_n 0, 1) := by decide +kernel
theorem dk_Md_spend_27 : decode mi_Md_spend.2.1 27 = .ok (.getfield 90, 3) := by decide +kernel
theorem dk_Md_spend_30 : decode mi_Md_spend.2.1 30 = .ok (.ishl, 1) := by decide +kernel
theorem dk_Md_spend_31 : decode mi_Md_spend.2.1 31 = .ok (.if_icmp .ge 87, 3) := by decide +kernel
theorem dk_Md_spend_34 : decode mi_Md_spend.2.1 34 = .ok (.aload_n 0, 1) := by decide +kernel
theorem dk_Md_spend_35 : decode mi_Md_spend.2.1 35 = .ok (.iload 6, 2) := by decide +kernel
theorem dk_Md_spend_37 : decode mi_Md_spend.2.1 37 = .ok (.invokevirtual 192, 3) := by decide +kernel
theorem dk_Md_spend_40 : decode mi_Md_spend.2.1 40 = .ok (.istore 7, 2) := by decide +kernel
theorem dk_Md_spend_42 : decode mi_Md_spend.2.1 42 = .ok (.iload 6, 2) := by decide +kernel
theorem dk_Md_spend_44 : decode mi_Md_spend.2.1 44 = .ok (.iload_n 1, 1) := by decide +kernel
theorem dk_Md_spend_45 : decode mi_Md_spend.2.1 45 = .ok (.iconst (-1), 1) := by decide +kernel
theorem dk_Md_spend_46 : decode mi_Md_spend.2.1 46 = .ok (.ixor, 1) := by decide +kernel
theorem dk_Md_spend_47 : decode mi_Md_spend.2.1 47 = .ok (.iand, 1) := by decide +kernel
theorem dk_Md_spend_48 : decode mi_Md_spend.2.1 48 = .ok (.ifCond .ne 64, 3) := by decide +kernel
theorem dk_Md_spend_51 : decode mi_Md_spend.2.1 51 = .ok (.iload 7, 2) := by decide +kernel
theorem dk_Md_spend_53 : decode mi_Md_spend.2.1 53 = .ok (.aload_n 0, 1) := by decide +kernel
theorem dk_Md_spend_54 : decode mi_Md_spend.2.1 54 = .ok (.getfield 13, 3) := by decide +kernel
theorem dk_Md_spend_57 : decode mi_Md_spend.2.1 57 = .ok (.if_icmp .le 6, 3) := by decide +kernel
theorem dk_Md_spend_60 : decode mi_Md_spend.2.1 60 = .ok (.goto 52, 3) := by decide +kernel
theorem dk_Md_spend_63 : decode mi_Md_spend.2.1 63 = .ok (.aload_n 0, 1) := by decide +kernel
theorem dk_Md_spend_64 : decode mi_Md_spend.2.1 64 = .ok (.aload_n 0, 1) := by decide +kernel
theorem dk_Md_spend_65 : decode mi_Md_spend.2.1 65 = .ok (.iload 6, 2) := by decide +kernel
theorem dk_Md_spend_67 : decode mi_Md_spend.2.1 67 = .ok (.iload_n 2, 1) := by decide +kernel
theorem dk_Md_spend_68 : decode mi_Md_spend.2.1 68 = .ok (.ior, 1) := by decide +kernel
theorem dk_Md_spend_69 : decode mi_Md_spend.2.1 69 = .ok (.invokevirtual 180, 3) := by decide +kernel
theorem dk_Md_spend_72 : decode mi_Md_spend.2.1 72 = .ok (.invokevirtual 189, 3) := by decide +kernel
theorem dk_Md_spend_75 : decode mi_Md_spend.2.1 75 = .ok (.istore 8, 2) := by decide +kernel
theorem dk_Md_spend_77 : decode mi_Md_spend.2.1 77 = .ok (.iload 8, 2) := by decide +kernel
theorem dk_Md_spend_79 : decode mi_Md_spend.2.1 79 = .ok (.iload 4, 2) := by decide +kernel
theorem dk_Md_spend_81 : decode mi_Md_spend.2.1 81 = .ok (.if_icmp .lt 31, 3) := by decide +kernel
theorem dk_Md_spend_84 : decode mi_Md_spend.2.1 84 = .ok (.iload 8, 2) := by decide +kernel
theorem dk_Md_spend_86 : decode mi_Md_spend.2.1 86 = .ok (.iload 4, 2) := by decide +kernel
theorem dk_Md_spend_88 : decode mi_Md_spend.2.1 88 = .ok (.if_icmp .ne 13, 3) := by decide +kernel
theorem dk_Md_spend_91 : decode mi_Md_spend.2.1 91 = .ok (.iload 7, 2) := by decide +kernel
theorem dk_Md_spend_93 : decode mi_Md_spend.2.1 93 = .ok (.iload 5, 2) := by decide +kernel
theorem dk_Md_spend_95 : decode mi_Md_spend.2.1 95 = .ok (.if_icmp .lt 6, 3) := by decide +kernel
theorem dk_Md_spend_98 : decode mi_Md_spend.2.1 98 = .ok (.goto 14, 3) := by decide +kernel
theorem dk_Md_spend_101 : decode mi_Md_spend.2.1 101 = .ok (.iload 6, 2) := by decide +kernel
theorem dk_Md_spend_103 : decode mi_Md_spend.2.1 103 = .ok (.istore_n 3, 1) := by decide +kernel
theorem dk_Md_spend_104 : decode mi_Md_spend.2.1 104 = .ok (.iload 8, 2) := by decide +kernel
theorem dk_Md_spend_106 : decode mi_Md_spend.2.1 106 = .ok (.istore 4, 2) := by decide +kernel
theorem dk_Md_spend_108 : decode mi_Md_spend.2.1 108 = .ok (.iload 7, 2) := by decide +kernel
theorem dk_Md_spend_110 : decode mi_Md_spend.2.1 110 = .ok (.istore 5, 2) := by decide +kernel
theorem dk_Md_spend_112 : decode mi_Md_spend.2.1 112 = .ok (.iinc 6 1, 3) := by decide +kernel
theorem dk_Md_spend_115 : decode mi_Md_spend.2.1 115 = .ok (.goto (-92), 3) := by decide +kernel
theorem dk_Md_spend_118 : decode mi_Md_spend.2.1 118 = .ok (.iload_n 3, 1) := by decide +kernel
theorem dk_Md_spend_119 : decode mi_Md_spend.2.1 119 = .ok (.ireturn, 1) := by decide +kernel
def Md_spend_j101 (k_23 : Int32 → Int32 → Int32 → Int32 → Int32 → Int32 → nm_St → Option (Int32 × nm_St)) (x1 : Int32) (x2 : Int32) (x6 : Int32) (x7 : Int32) (x8 : Int32) (σ : nm_St) : Option (Int32 × nm_St) :=
  k_23 x1 x2 x6 x8 x7 (x6 + (1 : Int32)) σ
set_option maxRecDepth 100000 in
set_option maxHeartbeats 4000000 in
theorem r_Md_spend_j101 (X : nm_X) (F : nm_F) (hF0 : 4 ≤ nm_d F) (k_23 : Int32 → Int32 → Int32 → Int32 → Int32 → Int32 → nm_St → Option (Int32 × nm_St)) (hk_23 : ∀ (x1 : Int32) (x2 : Int32) (x3 : Int32) (x4 : Int32) (x5 : Int32) (x6 : Int32) (σ : nm_St), Rn X mi_Md_spend F (nm_Qf X F nm_wI) [(0, .ref 70), (1, .int x1), (2, .int x2), (3, .int x3), (4, .int x4), (5, .int x5), (6, .int x6)] [] 23 σ (k_23 x1 x2 x3 x4 x5 x6 σ)) (x1 : Int32) (x2 : Int32) (x6 : Int32) (x7 : Int32) (x8 : Int32) (σ : nm_St) : Rn X mi_Md_spend F (nm_Qf X F nm_wI) [(0, .ref 70), (1, .int x1), (2, .int x2), (6, .int x6), (7, .int x7), (8, .int x8)] [] 101 σ (Md_spend_j101 k_23 x1 x2 x6 x7 x8 σ) := by
  unfold Md_spend_j101
  refine rn_iload (pc := 101) dk_Md_spend_101 rfl ?_
  refine rn_istore_n (pc := 103) 3 dk_Md_spend_103 rfl rfl rfl ?_
  refine rn_iload (pc := 104) dk_Md_spend_104 rfl ?_
  refine rn_istore (pc := 106) dk_Md_spend_106 rfl rfl ?_
  refine rn_iload (pc := 108) dk_Md_spend_108 rfl ?_
  refine rn_istore (pc := 110) dk_Md_spend_110 rfl rfl ?_
  refine rn_iinc (pc := 112) (1 : Int32) dk_Md_spend_112 cn_i_1 rfl rfl rfl ?_
  refine rn_goto (pc := 115) 23 dk_Md_spend_115 (by decide) ?_
  exact rn_sub (by rfl) (hk_23 x1 x2 x6 x8 x7 (x6 + (1 : Int32)) σ)
def Md_spend_l23 (k_118 : Int32 → nm_St → Option (Int32 × nm_St)) : Nat → Int32 → Int32 → Int32 → Int32 → Int32 → Int32 → nm_St → Option (Int32 × nm_St)
  | 0, _, _, _, _, _, _, _ => none
  | n + 1, x1, x2, x3, x4, x5, x6, σ =>
    (if ((1 : Int32) <<< ((σ.1 70 0) &&& 31)) ≤ x6 then
      k_118 x3 σ
    else
      ((Md_prices x6 σ).bind fun q4 =>
      (if (x6 &&& (x1 ^^^ (-1 : Int32))) = 0 then
        (if q4.1 ≤ (q4.2.1 70 3) then
          ((Md_knownBy (x6 ||| x2) q4.2).bind fun q7 =>
          ((Md_ones q7.1 q7.2).bind fun q8 =>
          (if q8.1 < x4 then
            (Md_spend_l23 k_118 n) x1 x2 x3 x4 x5 (x6 + (1 : Int32)) q8.2
          else
            (if q8.1 = x4 then
              (if q4.1 < x5 then
                Md_spend_j101 (Md_spend_l23 k_118 n) x1 x2 x6 q4.1 q8.1 q8.2
              else
                (Md_spend_l23 k_118 n) x1 x2 x3 x4 x5 (x6 + (1 : Int32)) q8.2)
            else
              Md_spend_j101 (Md_spend_l23 k_118 n) x1 x2 x6 q4.1 q8.1 q8.2))))
        else
          (Md_spend_l23 k_118 n) x1 x2 x3 x4 x5 (x6 + (1 : Int32)) q4.2)
      else
        (Md_spend_l23 k_118 n) x1 x2 x3 x4 x5 (x6 + (1 : Int32)) q4.2)))
set_option maxRecDepth 100000 in
set_option maxHeartbeats 4000000 in
theorem r_Md_spend_l23 (X : nm_X) (F : nm_F) (hF0 : 4 ≤ nm_d F) (k_118 : Int32 → nm_St → Option (Int32 × nm_St)) (hk_118 : ∀ (x3 : Int32) (σ : nm_St), Rn X mi_Md_spend F (nm_Qf X F nm_wI) [(3, .int x3)] [] 118 σ (k_118 x3 σ)) : ∀ (n : Nat) (x1 : Int32) (x2 : Int32) (x3 : Int32) (x4 : Int32) (x5 : Int32) (x6 : Int32) (σ : nm_St), Rn X mi_Md_spend F (nm_Qf X F nm_wI) [(0, .ref 70), (1, .int x1), (2, .int x2), (3, .int x3), (4, .int x4), (5, .int x5), (6, .int x6)] [] 23 σ (Md_spend_l23 k_118 n x1 x2 x3 x4 x5 x6 σ) := by
  intro n
  induction n with
  | zero =>
    intro x1 x2 x3 x4 x5 x6 σ
    exact rn_none
  | succ n ih =>
    intro x1 x2 x3 x4 x5 x6 σ
    unfold Md_spend_l23
    refine rn_iload (pc := 23) dk_Md_spend_23 rfl ?_
    refine rn_iconst (pc := 25) (1 : Int32) dk_Md_spend_25 cn_i_1 ?_
    refine rn_aload_n (pc := 26) 0 dk_Md_spend_26 rfl rfl rfl ?_
    refine gf_Md_90 (pc := 27) rfl dk_Md_spend_27 ?_
    refine rn_ishl (pc := 30) dk_Md_spend_30 ?_
    refine rn_icmp_ge (pc := 31) 118 dk_Md_spend_31 (by decide) (fun c3 => ?_) (fun c3 => ?_)
    · exact rn_sub (by rfl) (hk_118 x3 σ)
    · refine rn_aload_n (pc := 34) 0 dk_Md_spend_34 rfl rfl rfl ?_
      refine rn_iload (pc := 35) dk_Md_spend_35 rfl ?_
      refine cl_Md_192 (pc := 37) (As := [.int x6]) (st := []) rfl (ct_Md_prices X x6 σ) (Nat.le_trans (Nat.le_of_ble_eq_true rfl) hF0) rfl rfl (Nat.le_of_ble_eq_true rfl) dk_Md_spend_37 (fun q4 => ?_)
      refine rn_istore (pc := 40) dk_Md_spend_40 rfl rfl ?_
      refine rn_iload (pc := 42) dk_Md_spend_42 rfl ?_
      refine rn_iload_n (pc := 44) 1 dk_Md_spend_44 rfl rfl ?_
      refine rn_iconst (pc := 45) (-1 : Int32) dk_Md_spend_45 cn_i_m1 ?_
      refine rn_ixor (pc := 46) dk_Md_spend_46 ?_
      refine rn_iand (pc := 47) dk_Md_spend_47 ?_
      refine rn_if_ne (pc := 48) 112 dk_Md_spend_48 (by decide) (fun c5 => ?_) (fun c5 => ?_)
      · refine rn_iinc (pc := 112) (1 : Int32) dk_Md_spend_112 cn_i_1 rfl rfl rfl ?_
        refine rn_goto (pc := 115) 23 dk_Md_spend_115 (by decide) ?_
        exact rn_sub (by rfl) (ih x1 x2 x3 x4 x5 (x6 + (1 : Int32)) q4.2)
      · refine rn_iload (pc := 51) dk_Md_spend_51 rfl ?_
        refine rn_aload_n (pc := 53) 0 dk_Md_spend_53 rfl rfl rfl ?_
        refine gf_Md_13 (pc := 54) rfl dk_Md_spend_54 ?_
        refine rn_icmp_le (pc := 57) 63 dk_Md_spend_57 (by decide) (fun c6 => ?_) (fun c6 => ?_)
        · refine rn_aload_n (pc := 63) 0 dk_Md_spend_63 rfl rfl rfl ?_
          refine rn_aload_n (pc := 64) 0 dk_Md_spend_64 rfl rfl rfl ?_
          refine rn_iload (pc := 65) dk_Md_spend_65 rfl ?_
          refine rn_iload_n (pc := 67) 2 dk_Md_spend_67 rfl rfl ?_
          refine rn_ior (pc := 68) dk_Md_spend_68 ?_
          refine cl_Md_180 (pc := 69) (As := [.int (x6 ||| x2)]) (st := [.ref 70]) rfl (ct_Md_knownBy X (x6 ||| x2) q4.2) (Nat.le_trans (Nat.le_of_ble_eq_true rfl) hF0) rfl rfl (Nat.le_of_ble_eq_true rfl) dk_Md_spend_69 (fun q7 => ?_)
          refine cl_Md_189 (pc := 72) (As := [.int q7.1]) (st := []) rfl (ct_Md_ones X q7.1 q7.2) (Nat.le_trans (Nat.le_of_ble_eq_true rfl) hF0) rfl rfl (Nat.le_of_ble_eq_true rfl) dk_Md_spend_72 (fun q8 => ?_)
          refine rn_istore (pc := 75) dk_Md_spend_75 rfl rfl ?_
          refine rn_iload (pc := 77) dk_Md_spend_77 rfl ?_
          refine rn_iload (pc := 79) dk_Md_spend_79 rfl ?_
          refine rn_icmp_lt (pc := 81) 112 dk_Md_spend_81 (by decide) (fun c9 => ?_) (fun c9 => ?_)
          · refine rn_iinc (pc := 112) (1 : Int32) dk_Md_spend_112 cn_i_1 rfl rfl rfl ?_
            refine rn_goto (pc := 115) 23 dk_Md_spend_115 (by decide) ?_
            exact rn_sub (by rfl) (ih x1 x2 x3 x4 x5 (x6 + (1 : Int32)) q8.2)
          · refine rn_iload (pc := 84) dk_Md_spend_84 rfl ?_
            refine rn_iload (pc := 86) dk_Md_spend_86 rfl ?_
            refine rn_icmp_ne (pc := 88) 101 dk_Md_spend_88 (by decide) (fun c10 => ?_) (fun c10 => ?_)
            · exact rn_sub (by rfl) (r_Md_spend_j101 X F hF0 _ ih x1 x2 x6 q4.1 q8.1 q8.2)
            · refine rn_iload (pc := 91) dk_Md_spend_91 rfl ?_
              refine rn_iload (pc := 93) dk_Md_spend_93 rfl ?_
              refine rn_icmp_lt (pc := 95) 101 dk_Md_spend_95 (by decide) (fun c11 => ?_) (fun c11 => ?_)
              · exact rn_sub (by rfl) (r_Md_spend_j101 X F hF0 _ ih x1 x2 x6 q4.1 q8.1 q8.2)
              · refine rn_goto (pc := 98) 112 dk_Md_spend_98 (by decide) ?_
                refine rn_iinc (pc := 112) (1 : Int32) dk_Md_spend_112 cn_i_1 rfl rfl rfl ?_
                refine rn_goto (pc := 115) 23 dk_Md_spend_115 (by decide) ?_
                exact rn_sub (by rfl) (ih x1 x2 x3 x4 x5 (x6 + (1 : Int32)) q8.2)
        · refine rn_goto (pc := 60) 112 dk_Md_spend_60 (by decide) ?_
          refine rn_iinc (pc := 112) (1 : Int32) dk_Md_spend_112 cn_i_1 rfl rfl rfl ?_
          refine rn_goto (pc := 115) 23 dk_Md_spend_115 (by decide) ?_
          exact rn_sub (by rfl) (ih x1 x2 x3 x4 x5 (x6 + (1 : Int32)) q4.2)
def Md_spend (σ : nm_St) : Option (Int32 × nm_St) :=
  ((Md_those (0 : Int32) σ).bind fun q1 =>
  ((Md_those (1 : Int32) q1.2).bind fun q2 =>
  Md_spend_l23 (fun (e13 : Int32) (s12 : nm_St) =>
    some (e13, s12)) 400 q1.1 q2.1 (0 : Int32) (-1 : Int32) (0 : Int32) (0 : Int32) q2.2))
set_option maxRecDepth 100000 in
set_option maxHeartbeats 4000000 in
theorem ct_Md_spend (X : nm_X) (σ : nm_St) : Ct X mi_Md_spend 4 nm_wI [.ref 70] σ (Md_spend σ) := by
  refine Ct.of (by decide +kernel) rfl (fun F hF0 => ?_)
  unfold Md_spend
  refine rn_aload_n (pc := 0) 0 dk_Md_spend_0 rfl rfl rfl ?_
  refine rn_iconst (pc := 1) (0 : Int32) dk_Md_spend_1 cn_i_0 ?_
  refine cl_Md_183 (pc := 2) (As := [.int (0 : Int32)]) (st := []) rfl (ct_Md_those X (0 : Int32) σ) (Nat.le_trans (Nat.le_of_ble_eq_true rfl) hF0) rfl rfl (Nat.le_of_ble_eq_true rfl) dk_Md_spend_2 (fun q1 => ?_)
  refine rn_istore_n (pc := 5) 1 dk_Md_spend_5 rfl rfl rfl ?_
  refine rn_aload_n (pc := 6) 0 dk_Md_spend_6 rfl rfl rfl ?_
  refine rn_iconst (pc := 7) (1 : Int32) dk_Md_spend_7 cn_i_1 ?_
  refine cl_Md_183 (pc := 8) (As := [.int (1 : Int32)]) (st := []) rfl (ct_Md_those X (1 : Int32) q1.2) (Nat.le_trans (Nat.le_of_ble_eq_true rfl) hF0) rfl rfl (Nat.le_of_ble_eq_true rfl) dk_Md_spend_8 (fun q2 => ?_)
  refine rn_istore_n (pc := 11) 2 dk_Md_spend_11 rfl rfl rfl ?_
  refine rn_iconst (pc := 12) (0 : Int32) dk_Md_spend_12 cn_i_0 ?_
  refine rn_istore_n (pc := 13) 3 dk_Md_spend_13 rfl rfl rfl ?_
  refine rn_iconst (pc := 14) (-1 : Int32) dk_Md_spend_14 cn_i_m1 ?_
  refine rn_istore (pc := 15) dk_Md_spend_15 rfl rfl ?_
  refine rn_iconst (pc := 17) (0 : Int32) dk_Md_spend_17 cn_i_0 ?_
  refine rn_istore (pc := 18) dk_Md_spend_18 rfl rfl ?_
  refine rn_iconst (pc := 20) (0 : Int32) dk_Md_spend_20 cn_i_0 ?_
  refine rn_istore (pc := 21) dk_Md_spend_21 rfl rfl ?_
  refine rn_sub (by rfl) (r_Md_spend_l23 X F hF0 _ (fun e13 s12 => ?_) 400 q1.1 q2.1 (0 : Int32) (-1 : Int32) (0 : Int32) (0 : Int32) q2.2)
  refine rn_iload_n (pc := 118) 3 dk_Md_spend_118 rfl rfl ?_
  exact rn_iret rfl dk_Md_spend_119
theorem dk_Md_costNow_0 : decode mi_Md_costNow.2.1 0 = .ok (.aload_n 0, 1) := by decide +kernel
theorem dk_Md_costNow_1 : decode mi_Md_costNow.2.1 1 = .ok (.invokevirtual 198, 3) := by decide +kernel
theorem dk_Md_costNow_4 : decode mi_Md_costNow.2.1 4 = .ok (.istore_n 1, 1) := by decide +kernel
theorem dk_Md_costNow_5 : decode mi_Md_costNow.2.1 5 = .ok (.iload_n 1, 1) := by decide +kernel
theorem dk_Md_costNow_6 : decode mi_Md_costNow.2.1 6 = .ok (.iconst (-1), 1) := by decide +kernel
theorem dk_Md_costNow_7 : decode mi_Md_costNow.2.1 7 = .ok (.if_icmp .eq 15, 3) := by decide +kernel
theorem dk_Md_costNow_10 : decode mi_Md_costNow.2.1 10 = .ok (.aload_n 0, 1) := by decide +kernel
theorem dk_Md_costNow_11 : decode mi_Md_costNow.2.1 11 = .ok (.iload_n 1, 1) := by decide +kernel
theorem dk_Md_costNow_12 : decode mi_Md_costNow.2.1 12 = .ok (.invokevirtual 192, 3) := by decide +kernel
theorem dk_Md_costNow_15 : decode mi_Md_costNow.2.1 15 = .ok (.aload_n 0, 1) := by decide +kernel
theorem dk_Md_costNow_16 : decode mi_Md_costNow.2.1 16 = .ok (.getfield 13, 3) := by decide +kernel
theorem dk_Md_costNow_19 : decode mi_Md_costNow.2.1 19 = .ok (.if_icmp .le 9, 3) := by decide +kernel
theorem dk_Md_costNow_22 : decode mi_Md_costNow.2.1 22 = .ok (.sipush 10000, 3) := by decide +kernel
theorem dk_Md_costNow_25 : decode mi_Md_costNow.2.1 25 = .ok (.goto 8, 3) := by decide +kernel
theorem dk_Md_costNow_28 : decode mi_Md_costNow.2.1 28 = .ok (.aload_n 0, 1) := by decide +kernel
theorem dk_Md_costNow_29 : decode mi_Md_costNow.2.1 29 = .ok (.iload_n 1, 1) := by decide +kernel
theorem dk_Md_costNow_30 : decode mi_Md_costNow.2.1 30 = .ok (.invokevirtual 192, 3) := by decide +kernel
theorem dk_Md_costNow_33 : decode mi_Md_costNow.2.1 33 = .ok (.ireturn, 1) := by decide +kernel
def Md_costNow (σ : nm_St) : Option (Int32 × nm_St) :=
  ((Md_cheapestSet σ).bind fun q1 =>
  (if q1.1 = (-1 : Int32) then
    some ((10000 : Int32), q1.2)
  else
    ((Md_prices q1.1 q1.2).bind fun q3 =>
    (if q3.1 ≤ (q3.2.1 70 3) then
      ((Md_prices q1.1 q3.2).bind fun q5 =>
      some (q5.1, q5.2))
    else
      some ((10000 : Int32), q3.2)))))
set_option maxRecDepth 100000 in
set_option maxHeartbeats 4000000 in
theorem ct_Md_costNow (X : nm_X) (σ : nm_St) : Ct X mi_Md_costNow 5 nm_wI [.ref 70] σ (Md_costNow σ) := by
  refine Ct.of (by decide +kernel) rfl (fun F hF0 => ?_)
  unfold Md_costNow
  refine rn_aload_n (pc := 0) 0 dk_Md_costNow_0 rfl rfl rfl ?_
  refine cl_Md_198 (pc := 1) (As := []) (st := []) rfl (ct_Md_cheapestSet X σ) (Nat.le_trans (Nat.le_of_ble_eq_true rfl) hF0) rfl rfl (Nat.le_of_ble_eq_true rfl) dk_Md_costNow_1 (fun q1 => ?_)
  refine rn_istore_n (pc := 4) 1 dk_Md_costNow_4 rfl rfl rfl ?_
  refine rn_iload_n (pc := 5) 1 dk_Md_costNow_5 rfl rfl ?_
  refine rn_iconst (pc := 6) (-1 : Int32) dk_Md_costNow_6 cn_i_m1 ?_
  refine rn_icmp_eq (pc := 7) 22 dk_Md_costNow_7 (by decide) (fun c2 => ?_) (fun c2 => ?_)
  · refine rn_sipush (pc := 22) (10000 : Int32) dk_Md_costNow_22 cn_s_10000 ?_
    refine rn_goto (pc := 25) 33 dk_Md_costNow_25 (by decide) ?_
    exact rn_iret rfl dk_Md_costNow_33
  · refine rn_aload_n (pc := 10) 0 dk_Md_costNow_10 rfl rfl rfl ?_
    refine rn_iload_n (pc := 11) 1 dk_Md_costNow_11 rfl rfl ?_
    refine cl_Md_192 (pc := 12) (As := [.int q1.1]) (st := []) rfl (ct_Md_prices X q1.1 q1.2) (Nat.le_trans (Nat.le_of_ble_eq_true rfl) hF0) rfl rfl (Nat.le_of_ble_eq_true rfl) dk_Md_costNow_12 (fun q3 => ?_)
    refine rn_aload_n (pc := 15) 0 dk_Md_costNow_15 rfl rfl rfl ?_
    refine gf_Md_13 (pc := 16) rfl dk_Md_costNow_16 ?_
    refine rn_icmp_le (pc := 19) 28 dk_Md_costNow_19 (by decide) (fun c4 => ?_) (fun c4 => ?_)
    · refine rn_aload_n (pc := 28) 0 dk_Md_costNow_28 rfl rfl rfl ?_
      refine rn_iload_n (pc := 29) 1 dk_Md_costNow_29 rfl rfl ?_
      refine cl_Md_192 (pc := 30) (As := [.int q1.1]) (st := []) rfl (ct_Md_prices X q1.1 q3.2) (Nat.le_trans (Nat.le_of_ble_eq_true rfl) hF0) rfl rfl (Nat.le_of_ble_eq_true rfl) dk_Md_costNow_30 (fun q5 => ?_)
      exact rn_iret rfl dk_Md_costNow_33
    · refine rn_sipush (pc := 22) (10000 : Int32) dk_Md_costNow_22 cn_s_10000 ?_
      refine rn_goto (pc := 25) 33 dk_Md_costNow_25 (by decide) ?_
      exact rn_iret rfl dk_Md_costNow_33
theorem dk_Md_deeds_0 : decode mi_Md_deeds.2.1 0 = .ok (.aload_n 0, 1) := by decide +kernel
theorem dk_Md_deeds_1 : decode mi_Md_deeds.2.1 1 = .ok (.getfield 41, 3) := by decide +kernel
theorem dk_Md_deeds_4 : decode mi_Md_deeds.2.1 4 = .ok (.iload_n 1, 1) := by decide +kernel
theorem dk_Md_deeds_5 : decode mi_Md_deeds.2.1 5 = .ok (.iload_n 2, 1) := by decide +kernel
theorem dk_Md_deeds_6 : decode mi_Md_deeds.2.1 6 = .ok (.ifCond .ne 7, 3) := by decide +kernel
theorem dk_Md_deeds_9 : decode mi_Md_deeds.2.1 9 = .ok (.iconst 2, 1) := by decide +kernel
theorem dk_Md_deeds_10 : decode mi_Md_deeds.2.1 10 = .ok (.goto 13, 3) := by decide +kernel
theorem dk_Md_deeds_13 : decode mi_Md_deeds.2.1 13 = .ok (.iload_n 2, 1) := by decide +kernel
theorem dk_Md_deeds_14 : decode mi_Md_deeds.2.1 14 = .ok (.iconst 1, 1) := by decide +kernel
theorem dk_Md_deeds_15 : decode mi_Md_deeds.2.1 15 = .ok (.if_icmp .ne 7, 3) := by decide +kernel
theorem dk_Md_deeds_18 : decode mi_Md_deeds.2.1 18 = .ok (.iconst 3, 1) := by decide +kernel
theorem dk_Md_deeds_19 : decode mi_Md_deeds.2.1 19 = .ok (.goto 4, 3) := by decide +kernel
theorem dk_Md_deeds_22 : decode mi_Md_deeds.2.1 22 = .ok (.iconst 0, 1) := by decide +kernel
theorem dk_Md_deeds_23 : decode mi_Md_deeds.2.1 23 = .ok (.iastore, 1) := by decide +kernel
theorem dk_Md_deeds_24 : decode mi_Md_deeds.2.1 24 = .ok (.aload_n 0, 1) := by decide +kernel
theorem dk_Md_deeds_25 : decode mi_Md_deeds.2.1 25 = .ok (.dup, 1) := by decide +kernel
theorem dk_Md_deeds_26 : decode mi_Md_deeds.2.1 26 = .ok (.getfield 118, 3) := by decide +kernel
theorem dk_Md_deeds_29 : decode mi_Md_deeds.2.1 29 = .ok (.iload_n 2, 1) := by decide +kernel
theorem dk_Md_deeds_30 : decode mi_Md_deeds.2.1 30 = .ok (.ifCond .ne 7, 3) := by decide +kernel
theorem dk_Md_deeds_33 : decode mi_Md_deeds.2.1 33 = .ok (.iconst 5, 1) := by decide +kernel
theorem dk_Md_deeds_34 : decode mi_Md_deeds.2.1 34 = .ok (.goto 15, 3) := by decide +kernel
theorem dk_Md_deeds_37 : decode mi_Md_deeds.2.1 37 = .ok (.iload_n 2, 1) := by decide +kernel
theorem dk_Md_deeds_38 : decode mi_Md_deeds.2.1 38 = .ok (.iconst 1, 1) := by decide +kernel
theorem dk_Md_deeds_39 : decode mi_Md_deeds.2.1 39 = .ok (.if_icmp .ne 8, 3) := by decide +kernel
theorem dk_Md_deeds_42 : decode mi_Md_deeds.2.1 42 = .ok (.bipush 10, 2) := by decide +kernel
theorem dk_Md_deeds_44 : decode mi_Md_deeds.2.1 44 = .ok (.goto 5, 3) := by decide +kernel
theorem dk_Md_deeds_47 : decode mi_Md_deeds.2.1 47 = .ok (.bipush (-5), 2) := by decide +kernel
theorem dk_Md_deeds_49 : decode mi_Md_deeds.2.1 49 = .ok (.iadd, 1) := by decide +kernel
theorem dk_Md_deeds_50 : decode mi_Md_deeds.2.1 50 = .ok (.putfield 118, 3) := by decide +kernel
theorem dk_Md_deeds_53 : decode mi_Md_deeds.2.1 53 = .ok (.aload_n 0, 1) := by decide +kernel
theorem dk_Md_deeds_54 : decode mi_Md_deeds.2.1 54 = .ok (.aload_n 0, 1) := by decide +kernel
theorem dk_Md_deeds_55 : decode mi_Md_deeds.2.1 55 = .ok (.getfield 118, 3) := by decide +kernel
theorem dk_Md_deeds_58 : decode mi_Md_deeds.2.1 58 = .ok (.ifCond .ge 7, 3) := by decide +kernel
theorem dk_Md_deeds_61 : decode mi_Md_deeds.2.1 61 = .ok (.iconst 0, 1) := by decide +kernel
theorem dk_Md_deeds_62 : decode mi_Md_deeds.2.1 62 = .ok (.goto 21, 3) := by decide +kernel
theorem dk_Md_deeds_65 : decode mi_Md_deeds.2.1 65 = .ok (.aload_n 0, 1) := by decide +kernel
theorem dk_Md_deeds_66 : decode mi_Md_deeds.2.1 66 = .ok (.getfield 118, 3) := by decide +kernel
theorem dk_Md_deeds_69 : decode mi_Md_deeds.2.1 69 = .ok (.bipush 99, 2) := by decide +kernel
theorem dk_Md_deeds_71 : decode mi_Md_deeds.2.1 71 = .ok (.if_icmp .le 8, 3) := by decide +kernel
theorem dk_Md_deeds_74 : decode mi_Md_deeds.2.1 74 = .ok (.bipush 99, 2) := by decide +kernel
theorem dk_Md_deeds_76 : decode mi_Md_deeds.2.1 76 = .ok (.goto 7, 3) := by decide +kernel
theorem dk_Md_deeds_79 : decode mi_Md_deeds.2.1 79 = .ok (.aload_n 0, 1) := by decide +kernel
theorem dk_Md_deeds_80 : decode mi_Md_deeds.2.1 80 = .ok (.getfield 118, 3) := by decide +kernel
theorem dk_Md_deeds_83 : decode mi_Md_deeds.2.1 83 = .ok (.putfield 118, 3) := by decide +kernel
theorem dk_Md_deeds_86 : decode mi_Md_deeds.2.1 86 = .ok (.return_, 1) := by decide +kernel
def Md_deeds_j49 (y1 : Int32) (y2 : Int32) (σ : nm_St) : Option (Unit × nm_St) :=
  (nm_let (nm_pI σ 70 2 (y1 + y2)) fun s7 =>
  (if 0 ≤ (s7.1 70 2) then
    (if (s7.1 70 2) ≤ (99 : Int32) then
      (nm_let (nm_pI s7 70 2 (s7.1 70 2)) fun s10 =>
      some ((), s10))
    else
      (nm_let (nm_pI s7 70 2 (99 : Int32)) fun s11 =>
      some ((), s11)))
  else
    (nm_let (nm_pI s7 70 2 (0 : Int32)) fun s12 =>
    some ((), s12))))
set_option maxRecDepth 100000 in
set_option maxHeartbeats 4000000 in
theorem r_Md_deeds_j49 (X : nm_X) (F : nm_F) (hF0 : 0 ≤ nm_d F) (y1 : Int32) (y2 : Int32) (σ : nm_St) : Rn X mi_Md_deeds F (nm_Qf X F nm_wV) [(0, .ref 70)] [.int y2, .int y1, .ref 70] 49 σ (Md_deeds_j49 y1 y2 σ) := by
  unfold Md_deeds_j49
  refine rn_iadd (pc := 49) dk_Md_deeds_49 ?_
  refine pf_Md_118 (pc := 50) rfl dk_Md_deeds_50 ?_
  refine rn_lets (fun s7 => ?_)
  refine rn_aload_n (pc := 53) 0 dk_Md_deeds_53 rfl rfl rfl ?_
  refine rn_aload_n (pc := 54) 0 dk_Md_deeds_54 rfl rfl rfl ?_
  refine gf_Md_118 (pc := 55) rfl dk_Md_deeds_55 ?_
  refine rn_if_ge (pc := 58) 65 dk_Md_deeds_58 (by decide) (fun c8 => ?_) (fun c8 => ?_)
  · refine rn_aload_n (pc := 65) 0 dk_Md_deeds_65 rfl rfl rfl ?_
    refine gf_Md_118 (pc := 66) rfl dk_Md_deeds_66 ?_
    refine rn_bipush (pc := 69) (99 : Int32) dk_Md_deeds_69 cn_b_99 ?_
    refine rn_icmp_le (pc := 71) 79 dk_Md_deeds_71 (by decide) (fun c9 => ?_) (fun c9 => ?_)
    · refine rn_aload_n (pc := 79) 0 dk_Md_deeds_79 rfl rfl rfl ?_
      refine gf_Md_118 (pc := 80) rfl dk_Md_deeds_80 ?_
      refine pf_Md_118 (pc := 83) rfl dk_Md_deeds_83 ?_
      refine rn_lets (fun s10 => ?_)
      exact rn_vret rfl dk_Md_deeds_86
    · refine rn_bipush (pc := 74) (99 : Int32) dk_Md_deeds_74 cn_b_99 ?_
      refine rn_goto (pc := 76) 83 dk_Md_deeds_76 (by decide) ?_
      refine pf_Md_118 (pc := 83) rfl dk_Md_deeds_83 ?_
      refine rn_lets (fun s11 => ?_)
      exact rn_vret rfl dk_Md_deeds_86
  · refine rn_iconst (pc := 61) (0 : Int32) dk_Md_deeds_61 cn_i_0 ?_
    refine rn_goto (pc := 62) 83 dk_Md_deeds_62 (by decide) ?_
    refine pf_Md_118 (pc := 83) rfl dk_Md_deeds_83 ?_
    refine rn_lets (fun s12 => ?_)
    exact rn_vret rfl dk_Md_deeds_86
def Md_deeds_j23 (x2 : Int32) (y1 : Int32) (y2 : Int32) (σ : nm_St) : Option (Unit × nm_St) :=
  (nm_g (nm_in y1 8) (
  (nm_let (nm_pI σ 77 y1.toNatClampNeg y2) fun s4 =>
  (if x2 = 0 then
    Md_deeds_j49 (s4.1 70 2) (5 : Int32) s4
  else
    (if x2 = (1 : Int32) then
      Md_deeds_j49 (s4.1 70 2) (10 : Int32) s4
    else
      Md_deeds_j49 (s4.1 70 2) (-5 : Int32) s4)))))
set_option maxRecDepth 100000 in
set_option maxHeartbeats 4000000 in
theorem r_Md_deeds_j23 (X : nm_X) (F : nm_F) (hF0 : 0 ≤ nm_d F) (x2 : Int32) (y1 : Int32) (y2 : Int32) (σ : nm_St) : Rn X mi_Md_deeds F (nm_Qf X F nm_wV) [(0, .ref 70), (2, .int x2)] [.int y2, .int y1, .ref 77] 23 σ (Md_deeds_j23 x2 y1 y2 σ) := by
  unfold Md_deeds_j23
  refine rn_iastore (pc := 23) rfl dk_Md_deeds_23 (fun g3 => ?_)
  refine rn_lets (fun s4 => ?_)
  refine rn_aload_n (pc := 24) 0 dk_Md_deeds_24 rfl rfl rfl ?_
  refine rn_dup (pc := 25) dk_Md_deeds_25 rfl ?_
  refine gf_Md_118 (pc := 26) rfl dk_Md_deeds_26 ?_
  refine rn_iload_n (pc := 29) 2 dk_Md_deeds_29 rfl rfl ?_
  refine rn_if_ne (pc := 30) 37 dk_Md_deeds_30 (by decide) (fun c5 => ?_) (fun c5 => ?_)
  · refine rn_iload_n (pc := 37) 2 dk_Md_deeds_37 rfl rfl ?_
    refine rn_iconst (pc := 38) (1 : Int32) dk_Md_deeds_38 cn_i_1 ?_
    refine rn_icmp_ne (pc := 39) 47 dk_Md_deeds_39 (by decide) (fun c6 => ?_) (fun c6 => ?_)
    · refine rn_bipush (pc := 47) (-5 : Int32) dk_Md_deeds_47 cn_b_m5 ?_
      exact rn_sub (by rfl) (r_Md_deeds_j49 X F hF0 (s4.1 70 2) (-5 : Int32) s4)
    · refine rn_bipush (pc := 42) (10 : Int32) dk_Md_deeds_42 cn_b_10 ?_
      refine rn_goto (pc := 44) 49 dk_Md_deeds_44 (by decide) ?_
      exact rn_sub (by rfl) (r_Md_deeds_j49 X F hF0 (s4.1 70 2) (10 : Int32) s4)
  · refine rn_iconst (pc := 33) (5 : Int32) dk_Md_deeds_33 cn_i_5 ?_
    refine rn_goto (pc := 34) 49 dk_Md_deeds_34 (by decide) ?_
    exact rn_sub (by rfl) (r_Md_deeds_j49 X F hF0 (s4.1 70 2) (5 : Int32) s4)
def Md_deeds (p1 : Int32) (p2 : Int32) (σ : nm_St) : Option (Unit × nm_St) :=
  (if p2 = 0 then
    Md_deeds_j23 p2 p1 (2 : Int32) σ
  else
    (if p2 = (1 : Int32) then
      Md_deeds_j23 p2 p1 (3 : Int32) σ
    else
      Md_deeds_j23 p2 p1 (0 : Int32) σ))
set_option maxRecDepth 100000 in
set_option maxHeartbeats 4000000 in
theorem ct_Md_deeds (X : nm_X) (p1 : Int32) (p2 : Int32) (σ : nm_St) : Ct X mi_Md_deeds 0 nm_wV [.ref 70, .int p1, .int p2] σ (Md_deeds p1 p2 σ) := by
  refine Ct.of (by decide +kernel) rfl (fun F hF0 => ?_)
  unfold Md_deeds
  refine rn_aload_n (pc := 0) 0 dk_Md_deeds_0 rfl rfl rfl ?_
  refine gf_Md_41 (pc := 1) rfl dk_Md_deeds_1 ?_
  refine rn_iload_n (pc := 4) 1 dk_Md_deeds_4 rfl rfl ?_
  refine rn_iload_n (pc := 5) 2 dk_Md_deeds_5 rfl rfl ?_
  refine rn_if_ne (pc := 6) 13 dk_Md_deeds_6 (by decide) (fun c1 => ?_) (fun c1 => ?_)
  · refine rn_iload_n (pc := 13) 2 dk_Md_deeds_13 rfl rfl ?_
    refine rn_iconst (pc := 14) (1 : Int32) dk_Md_deeds_14 cn_i_1 ?_
    refine rn_icmp_ne (pc := 15) 22 dk_Md_deeds_15 (by decide) (fun c2 => ?_) (fun c2 => ?_)
    · refine rn_iconst (pc := 22) (0 : Int32) dk_Md_deeds_22 cn_i_0 ?_
      exact rn_sub (by rfl) (r_Md_deeds_j23 X F hF0 p2 p1 (0 : Int32) σ)
    · refine rn_iconst (pc := 18) (3 : Int32) dk_Md_deeds_18 cn_i_3 ?_
      refine rn_goto (pc := 19) 23 dk_Md_deeds_19 (by decide) ?_
      exact rn_sub (by rfl) (r_Md_deeds_j23 X F hF0 p2 p1 (3 : Int32) σ)
  · refine rn_iconst (pc := 9) (2 : Int32) dk_Md_deeds_9 cn_i_2 ?_
    refine rn_goto (pc := 10) 23 dk_Md_deeds_10 (by decide) ?_
    exact rn_sub (by rfl) (r_Md_deeds_j23 X F hF0 p2 p1 (2 : Int32) σ)
theorem dk_Md_mayDeed_0 : decode mi_Md_mayDeed.2.1 0 = .ok (.aload_n 0, 1) := by decide +kernel
theorem dk_Md_mayDeed_1 : decode mi_Md_mayDeed.2.1 1 = .ok (.getfield 41, 3) := by decide +kernel
theorem dk_Md_mayDeed_4 : decode mi_Md_mayDeed.2.1 4 = .ok (.iload_n 1, 1) := by decide +kernel
theorem dk_Md_mayDeed_5 : decode mi_Md_mayDeed.2.1 5 = .ok (.iaload, 1) := by decide +kernel
theorem dk_Md_mayDeed_6 : decode mi_Md_mayDeed.2.1 6 = .ok (.iload_n 2, 1) := by decide +kernel
theorem dk_Md_mayDeed_7 : decode mi_Md_mayDeed.2.1 7 = .ok (.ifCond .ne 7, 3) := by decide +kernel
theorem dk_Md_mayDeed_10 : decode mi_Md_mayDeed.2.1 10 = .ok (.iconst 0, 1) := by decide +kernel
theorem dk_Md_mayDeed_11 : decode mi_Md_mayDeed.2.1 11 = .ok (.goto 13, 3) := by decide +kernel
theorem dk_Md_mayDeed_14 : decode mi_Md_mayDeed.2.1 14 = .ok (.iload_n 2, 1) := by decide +kernel
theorem dk_Md_mayDeed_15 : decode mi_Md_mayDeed.2.1 15 = .ok (.iconst 1, 1) := by decide +kernel
theorem dk_Md_mayDeed_16 : decode mi_Md_mayDeed.2.1 16 = .ok (.if_icmp .ne 7, 3) := by decide +kernel
theorem dk_Md_mayDeed_19 : decode mi_Md_mayDeed.2.1 19 = .ok (.iconst 1, 1) := by decide +kernel
theorem dk_Md_mayDeed_20 : decode mi_Md_mayDeed.2.1 20 = .ok (.goto 4, 3) := by decide +kernel
theorem dk_Md_mayDeed_23 : decode mi_Md_mayDeed.2.1 23 = .ok (.iconst 2, 1) := by decide +kernel
theorem dk_Md_mayDeed_24 : decode mi_Md_mayDeed.2.1 24 = .ok (.if_icmp .ne 7, 3) := by decide +kernel
theorem dk_Md_mayDeed_27 : decode mi_Md_mayDeed.2.1 27 = .ok (.iconst 1, 1) := by decide +kernel
theorem dk_Md_mayDeed_28 : decode mi_Md_mayDeed.2.1 28 = .ok (.goto 4, 3) := by decide +kernel
theorem dk_Md_mayDeed_31 : decode mi_Md_mayDeed.2.1 31 = .ok (.iconst 0, 1) := by decide +kernel
theorem dk_Md_mayDeed_32 : decode mi_Md_mayDeed.2.1 32 = .ok (.ireturn, 1) := by decide +kernel
def Md_mayDeed_j24 (y0 : Int32) (y1 : Int32) (σ : nm_St) : Option (Int32 × nm_St) :=
  (if y0 = y1 then
    some ((1 : Int32), σ)
  else
    some ((0 : Int32), σ))
set_option maxRecDepth 100000 in
set_option maxHeartbeats 4000000 in
theorem r_Md_mayDeed_j24 (X : nm_X) (F : nm_F) (hF0 : 0 ≤ nm_d F) (y0 : Int32) (y1 : Int32) (σ : nm_St) : Rn X mi_Md_mayDeed F (nm_Qf X F nm_wI) [] [.int y1, .int y0] 24 σ (Md_mayDeed_j24 y0 y1 σ) := by
  unfold Md_mayDeed_j24
  refine rn_icmp_ne (pc := 24) 31 dk_Md_mayDeed_24 (by decide) (fun c4 => ?_) (fun c4 => ?_)
  · refine rn_iconst (pc := 31) (0 : Int32) dk_Md_mayDeed_31 cn_i_0 ?_
    exact rn_zret (ty := .boolean) rfl rfl dk_Md_mayDeed_32
  · refine rn_iconst (pc := 27) (1 : Int32) dk_Md_mayDeed_27 cn_i_1 ?_
    refine rn_goto (pc := 28) 32 dk_Md_mayDeed_28 (by decide) ?_
    exact rn_zret (ty := .boolean) rfl rfl dk_Md_mayDeed_32
def Md_mayDeed (p1 : Int32) (p2 : Int32) (σ : nm_St) : Option (Int32 × nm_St) :=
  (nm_g (nm_in p1 8) (
  (if p2 = 0 then
    Md_mayDeed_j24 (σ.1 77 p1.toNatClampNeg) (0 : Int32) σ
  else
    (if p2 = (1 : Int32) then
      Md_mayDeed_j24 (σ.1 77 p1.toNatClampNeg) (1 : Int32) σ
    else
      Md_mayDeed_j24 (σ.1 77 p1.toNatClampNeg) (2 : Int32) σ))))
set_option maxRecDepth 100000 in
set_option maxHeartbeats 4000000 in
theorem ct_Md_mayDeed (X : nm_X) (p1 : Int32) (p2 : Int32) (σ : nm_St) : Ct X mi_Md_mayDeed 0 nm_wI [.ref 70, .int p1, .int p2] σ (Md_mayDeed p1 p2 σ) := by
  refine Ct.of (by decide +kernel) rfl (fun F hF0 => ?_)
  unfold Md_mayDeed
  refine rn_aload_n (pc := 0) 0 dk_Md_mayDeed_0 rfl rfl rfl ?_
  refine gf_Md_41 (pc := 1) rfl dk_Md_mayDeed_1 ?_
  refine rn_iload_n (pc := 4) 1 dk_Md_mayDeed_4 rfl rfl ?_
  refine rn_iaload (pc := 5) rfl dk_Md_mayDeed_5 (fun g1 => ?_)
  refine rn_iload_n (pc := 6) 2 dk_Md_mayDeed_6 rfl rfl ?_
  refine rn_if_ne (pc := 7) 14 dk_Md_mayDeed_7 (by decide) (fun c2 => ?_) (fun c2 => ?_)
  · refine rn_iload_n (pc := 14) 2 dk_Md_mayDeed_14 rfl rfl ?_
    refine rn_iconst (pc := 15) (1 : Int32) dk_Md_mayDeed_15 cn_i_1 ?_
    refine rn_icmp_ne (pc := 16) 23 dk_Md_mayDeed_16 (by decide) (fun c3 => ?_) (fun c3 => ?_)
    · refine rn_iconst (pc := 23) (2 : Int32) dk_Md_mayDeed_23 cn_i_2 ?_
      exact rn_sub (by rfl) (r_Md_mayDeed_j24 X F hF0 (σ.1 77 p1.toNatClampNeg) (2 : Int32) σ)
    · refine rn_iconst (pc := 19) (1 : Int32) dk_Md_mayDeed_19 cn_i_1 ?_
      refine rn_goto (pc := 20) 24 dk_Md_mayDeed_20 (by decide) ?_
      exact rn_sub (by rfl) (r_Md_mayDeed_j24 X F hF0 (σ.1 77 p1.toNatClampNeg) (1 : Int32) σ)
  · refine rn_iconst (pc := 10) (0 : Int32) dk_Md_mayDeed_10 cn_i_0 ?_
    refine rn_goto (pc := 11) 24 dk_Md_mayDeed_11 (by decide) ?_
    exact rn_sub (by rfl) (r_Md_mayDeed_j24 X F hF0 (σ.1 77 p1.toNatClampNeg) (0 : Int32) σ)
theorem dk_Md_counsels_0 : decode mi_Md_counsels.2.1 0 = .ok (.iload_n 1, 1) := by decide +kernel
theorem dk_Md_counsels_1 : decode mi_Md_counsels.2.1 1 = .ok (.iload_n 2, 1) := by decide +kernel
theorem dk_Md_counsels_2 : decode mi_Md_counsels.2.1 2 = .ok (.if_icmp .ne 52, 3) := by decide +kernel
theorem dk_Md_counsels_5 : decode mi_Md_counsels.2.1 5 = .ok (.aload_n 0, 1) := by decide +kernel
theorem dk_Md_counsels_6 : decode mi_Md_counsels.2.1 6 = .ok (.invokevirtual 211, 3) := by decide +kernel
theorem dk_Md_counsels_9 : decode mi_Md_counsels.2.1 9 = .ok (.istore_n 3, 1) := by decide +kernel
theorem dk_Md_counsels_10 : decode mi_Md_counsels.2.1 10 = .ok (.iload_n 3, 1) := by decide +kernel
theorem dk_Md_counsels_11 : decode mi_Md_counsels.2.1 11 = .ok (.aload_n 0, 1) := by decide +kernel
theorem dk_Md_counsels_12 : decode mi_Md_counsels.2.1 12 = .ok (.getfield 214, 3) := by decide +kernel
theorem dk_Md_counsels_15 : decode mi_Md_counsels.2.1 15 = .ok (.if_icmp .gt 4, 3) := by decide +kernel
theorem dk_Md_counsels_18 : decode mi_Md_counsels.2.1 18 = .ok (.return_, 1) := by decide +kernel
theorem dk_Md_counsels_19 : decode mi_Md_counsels.2.1 19 = .ok (.aload_n 0, 1) := by decide +kernel
theorem dk_Md_counsels_20 : decode mi_Md_counsels.2.1 20 = .ok (.iload_n 3, 1) := by decide +kernel
theorem dk_Md_counsels_21 : decode mi_Md_counsels.2.1 21 = .ok (.putfield 214, 3) := by decide +kernel
theorem dk_Md_counsels_24 : decode mi_Md_counsels.2.1 24 = .ok (.iconst 0, 1) := by decide +kernel
theorem dk_Md_counsels_25 : decode mi_Md_counsels.2.1 25 = .ok (.istore 4, 2) := by decide +kernel
theorem dk_Md_counsels_27 : decode mi_Md_counsels.2.1 27 = .ok (.iload 4, 2) := by decide +kernel
theorem dk_Md_counsels_29 : decode mi_Md_counsels.2.1 29 = .ok (.iload_n 2, 1) := by decide +kernel
theorem dk_Md_counsels_30 : decode mi_Md_counsels.2.1 30 = .ok (.if_icmp .ge 23, 3) := by decide +kernel
theorem dk_Md_counsels_33 : decode mi_Md_counsels.2.1 33 = .ok (.aload_n 0, 1) := by decide +kernel
theorem dk_Md_counsels_34 : decode mi_Md_counsels.2.1 34 = .ok (.getfield 84, 3) := by decide +kernel
theorem dk_Md_counsels_37 : decode mi_Md_counsels.2.1 37 = .ok (.iload 4, 2) := by decide +kernel
theorem dk_Md_counsels_39 : decode mi_Md_counsels.2.1 39 = .ok (.aload_n 0, 1) := by decide +kernel
theorem dk_Md_counsels_40 : decode mi_Md_counsels.2.1 40 = .ok (.getfield 81, 3) := by decide +kernel
theorem dk_Md_counsels_43 : decode mi_Md_counsels.2.1 43 = .ok (.iload 4, 2) := by decide +kernel
theorem dk_Md_counsels_45 : decode mi_Md_counsels.2.1 45 = .ok (.iaload, 1) := by decide +kernel
theorem dk_Md_counsels_46 : decode mi_Md_counsels.2.1 46 = .ok (.iastore, 1) := by decide +kernel
theorem dk_Md_counsels_47 : decode mi_Md_counsels.2.1 47 = .ok (.iinc 4 1, 3) := by decide +kernel
theorem dk_Md_counsels_50 : decode mi_Md_counsels.2.1 50 = .ok (.goto (-23), 3) := by decide +kernel
theorem dk_Md_counsels_53 : decode mi_Md_counsels.2.1 53 = .ok (.return_, 1) := by decide +kernel
theorem dk_Md_counsels_54 : decode mi_Md_counsels.2.1 54 = .ok (.aload_n 0, 1) := by decide +kernel
theorem dk_Md_counsels_55 : decode mi_Md_counsels.2.1 55 = .ok (.getfield 81, 3) := by decide +kernel
theorem dk_Md_counsels_58 : decode mi_Md_counsels.2.1 58 = .ok (.iload_n 1, 1) := by decide +kernel
theorem dk_Md_counsels_59 : decode mi_Md_counsels.2.1 59 = .ok (.iconst 0, 1) := by decide +kernel
theorem dk_Md_counsels_60 : decode mi_Md_counsels.2.1 60 = .ok (.iastore, 1) := by decide +kernel
theorem dk_Md_counsels_61 : decode mi_Md_counsels.2.1 61 = .ok (.aload_n 0, 1) := by decide +kernel
theorem dk_Md_counsels_62 : decode mi_Md_counsels.2.1 62 = .ok (.iload_n 1, 1) := by decide +kernel
theorem dk_Md_counsels_63 : decode mi_Md_counsels.2.1 63 = .ok (.iconst 1, 1) := by decide +kernel
theorem dk_Md_counsels_64 : decode mi_Md_counsels.2.1 64 = .ok (.iadd, 1) := by decide +kernel
theorem dk_Md_counsels_65 : decode mi_Md_counsels.2.1 65 = .ok (.iload_n 2, 1) := by decide +kernel
theorem dk_Md_counsels_66 : decode mi_Md_counsels.2.1 66 = .ok (.invokevirtual 217, 3) := by decide +kernel
theorem dk_Md_counsels_69 : decode mi_Md_counsels.2.1 69 = .ok (.iconst 0, 1) := by decide +kernel
theorem dk_Md_counsels_70 : decode mi_Md_counsels.2.1 70 = .ok (.istore_n 3, 1) := by decide +kernel
theorem dk_Md_counsels_71 : decode mi_Md_counsels.2.1 71 = .ok (.iload_n 3, 1) := by decide +kernel
theorem dk_Md_counsels_72 : decode mi_Md_counsels.2.1 72 = .ok (.iconst 2, 1) := by decide +kernel
theorem dk_Md_counsels_73 : decode mi_Md_counsels.2.1 73 = .ok (.if_icmp .ge 101, 3) := by decide +kernel
theorem dk_Md_counsels_76 : decode mi_Md_counsels.2.1 76 = .ok (.iconst 0, 1) := by decide +kernel
theorem dk_Md_counsels_77 : decode mi_Md_counsels.2.1 77 = .ok (.istore 4, 2) := by decide +kernel
theorem dk_Md_counsels_79 : decode mi_Md_counsels.2.1 79 = .ok (.iload 4, 2) := by decide +kernel
theorem dk_Md_counsels_81 : decode mi_Md_counsels.2.1 81 = .ok (.aload_n 0, 1) := by decide +kernel
theorem dk_Md_counsels_82 : decode mi_Md_counsels.2.1 82 = .ok (.getfield 90, 3) := by decide +kernel
theorem dk_Md_counsels_85 : decode mi_Md_counsels.2.1 85 = .ok (.if_icmp .ge 83, 3) := by decide +kernel
theorem dk_Md_counsels_88 : decode mi_Md_counsels.2.1 88 = .ok (.aload_n 0, 1) := by decide +kernel
theorem dk_Md_counsels_89 : decode mi_Md_counsels.2.1 89 = .ok (.iload 4, 2) := by decide +kernel
theorem dk_Md_counsels_91 : decode mi_Md_counsels.2.1 91 = .ok (.iload_n 3, 1) := by decide +kernel
theorem dk_Md_counsels_92 : decode mi_Md_counsels.2.1 92 = .ok (.invokevirtual 221, 3) := by decide +kernel
theorem dk_Md_counsels_95 : decode mi_Md_counsels.2.1 95 = .ok (.ifCond .ne 6, 3) := by decide +kernel
theorem dk_Md_counsels_98 : decode mi_Md_counsels.2.1 98 = .ok (.goto 64, 3) := by decide +kernel
theorem dk_Md_counsels_101 : decode mi_Md_counsels.2.1 101 = .ok (.aload_n 0, 1) := by decide +kernel
theorem dk_Md_counsels_102 : decode mi_Md_counsels.2.1 102 = .ok (.getfield 41, 3) := by decide +kernel
theorem dk_Md_counsels_105 : decode mi_Md_counsels.2.1 105 = .ok (.iload 4, 2) := by decide +kernel
theorem dk_Md_counsels_107 : decode mi_Md_counsels.2.1 107 = .ok (.iaload, 1) := by decide +kernel
theorem dk_Md_counsels_108 : decode mi_Md_counsels.2.1 108 = .ok (.istore 5, 2) := by decide +kernel
theorem dk_Md_counsels_110 : decode mi_Md_counsels.2.1 110 = .ok (.aload_n 0, 1) := by decide +kernel
theorem dk_Md_counsels_111 : decode mi_Md_counsels.2.1 111 = .ok (.getfield 118, 3) := by decide +kernel
theorem dk_Md_counsels_114 : decode mi_Md_counsels.2.1 114 = .ok (.istore 6, 2) := by decide +kernel
theorem dk_Md_counsels_116 : decode mi_Md_counsels.2.1 116 = .ok (.aload_n 0, 1) := by decide +kernel
theorem dk_Md_counsels_117 : decode mi_Md_counsels.2.1 117 = .ok (.iload 4, 2) := by decide +kernel
theorem dk_Md_counsels_119 : decode mi_Md_counsels.2.1 119 = .ok (.iload_n 3, 1) := by decide +kernel
theorem dk_Md_counsels_120 : decode mi_Md_counsels.2.1 120 = .ok (.invokevirtual 224, 3) := by decide +kernel
theorem dk_Md_counsels_123 : decode mi_Md_counsels.2.1 123 = .ok (.aload_n 0, 1) := by decide +kernel
theorem dk_Md_counsels_124 : decode mi_Md_counsels.2.1 124 = .ok (.getfield 81, 3) := by decide +kernel
theorem dk_Md_counsels_127 : decode mi_Md_counsels.2.1 127 = .ok (.iload_n 1, 1) := by decide +kernel
theorem dk_Md_counsels_128 : decode mi_Md_counsels.2.1 128 = .ok (.bipush 10, 2) := by decide +kernel
theorem dk_Md_counsels_130 : decode mi_Md_counsels.2.1 130 = .ok (.bipush 10, 2) := by decide +kernel
theorem dk_Md_counsels_132 : decode mi_Md_counsels.2.1 132 = .ok (.iload_n 3, 1) := by decide +kernel
theorem dk_Md_counsels_133 : decode mi_Md_counsels.2.1 133 = .ok (.imul, 1) := by decide +kernel
theorem dk_Md_counsels_134 : decode mi_Md_counsels.2.1 134 = .ok (.iadd, 1) := by decide +kernel
theorem dk_Md_counsels_135 : decode mi_Md_counsels.2.1 135 = .ok (.iload 4, 2) := by decide +kernel
theorem dk_Md_counsels_137 : decode mi_Md_counsels.2.1 137 = .ok (.iadd, 1) := by decide +kernel
theorem dk_Md_counsels_138 : decode mi_Md_counsels.2.1 138 = .ok (.iastore, 1) := by decide +kernel
theorem dk_Md_counsels_139 : decode mi_Md_counsels.2.1 139 = .ok (.aload_n 0, 1) := by decide +kernel
theorem dk_Md_counsels_140 : decode mi_Md_counsels.2.1 140 = .ok (.iload_n 1, 1) := by decide +kernel
theorem dk_Md_counsels_141 : decode mi_Md_counsels.2.1 141 = .ok (.iconst 1, 1) := by decide +kernel
theorem dk_Md_counsels_142 : decode mi_Md_counsels.2.1 142 = .ok (.iadd, 1) := by decide +kernel
theorem dk_Md_counsels_143 : decode mi_Md_counsels.2.1 143 = .ok (.iload_n 2, 1) := by decide +kernel
theorem dk_Md_counsels_144 : decode mi_Md_counsels.2.1 144 = .ok (.invokevirtual 217, 3) := by decide +kernel
theorem dk_Md_counsels_147 : decode mi_Md_counsels.2.1 147 = .ok (.aload_n 0, 1) := by decide +kernel
theorem dk_Md_counsels_148 : decode mi_Md_counsels.2.1 148 = .ok (.getfield 41, 3) := by decide +kernel
theorem dk_Md_counsels_151 : decode mi_Md_counsels.2.1 151 = .ok (.iload 4, 2) := by decide +kernel
theorem dk_Md_counsels_153 : decode mi_Md_counsels.2.1 153 = .ok (.iload 5, 2) := by decide +kernel
theorem dk_Md_counsels_155 : decode mi_Md_counsels.2.1 155 = .ok (.iastore, 1) := by decide +kernel
theorem dk_Md_counsels_156 : decode mi_Md_counsels.2.1 156 = .ok (.aload_n 0, 1) := by decide +kernel
theorem dk_Md_counsels_157 : decode mi_Md_counsels.2.1 157 = .ok (.iload 6, 2) := by decide +kernel
theorem dk_Md_counsels_159 : decode mi_Md_counsels.2.1 159 = .ok (.putfield 118, 3) := by decide +kernel
theorem dk_Md_counsels_162 : decode mi_Md_counsels.2.1 162 = .ok (.iinc 4 1, 3) := by decide +kernel
theorem dk_Md_counsels_165 : decode mi_Md_counsels.2.1 165 = .ok (.goto (-86), 3) := by decide +kernel
theorem dk_Md_counsels_168 : decode mi_Md_counsels.2.1 168 = .ok (.iinc 3 1, 3) := by decide +kernel
theorem dk_Md_counsels_171 : decode mi_Md_counsels.2.1 171 = .ok (.goto (-100), 3) := by decide +kernel
theorem dk_Md_counsels_174 : decode mi_Md_counsels.2.1 174 = .ok (.return_, 1) := by decide +kernel
def Md_counsels_l79 (rec : Int32 → Int32 → nm_St → Option (Unit × nm_St)) (k_168 : Int32 → Int32 → Int32 → nm_St → Option (Unit × nm_St)) : Nat → Int32 → Int32 → Int32 → Int32 → nm_St → Option (Unit × nm_St)
  | 0, _, _, _, _, _ => none
  | n + 1, x1, x2, x3, x4, σ =>
    (if (σ.1 70 0) ≤ x4 then
      k_168 x1 x2 x3 σ
    else
      ((Md_mayDeed x4 x3 σ).bind fun q7 =>
      (if q7.1 = 0 then
        (Md_counsels_l79 rec k_168 n) x1 x2 x3 (x4 + (1 : Int32)) q7.2
      else
        (nm_g (nm_in x4 8) (
        (nm_let ((q7.2.1 77 x4.toNatClampNeg)) fun v10 =>
        ((Md_deeds x4 x3 q7.2).bind fun q11 =>
        (nm_g (nm_in x1 2) (
        (nm_let (nm_pI q11.2 90 x1.toNatClampNeg (((10 : Int32) + ((10 : Int32) * x3)) + x4)) fun s13 =>
        ((rec (x1 + (1 : Int32)) x2 s13).bind fun q14 =>
        (nm_g (nm_in x4 8) (
        (nm_let (nm_pI q14.2 77 x4.toNatClampNeg v10) fun s16 =>
        (nm_let (nm_pI s16 70 2 (q7.2.1 70 2)) fun s17 =>
        (Md_counsels_l79 rec k_168 n) x1 x2 x3 (x4 + (1 : Int32)) s17)))))))))))))))
set_option maxRecDepth 100000 in
set_option maxHeartbeats 4000000 in
theorem r_Md_counsels_l79 (X : nm_X) (F : nm_F) (rec : Int32 → Int32 → nm_St → Option (Unit × nm_St)) (hR : Nat) (hrec : ∀ (p1 p2 : Int32) (σ : nm_St), Ct X mi_Md_counsels hR nm_wV [.ref 70, .int p1, .int p2] σ (rec p1 p2 σ)) (hR8 : 6 ≤ hR) (hF0 : hR + 1 ≤ nm_d F) (k_168 : Int32 → Int32 → Int32 → nm_St → Option (Unit × nm_St)) (hk_168 : ∀ (x1 : Int32) (x2 : Int32) (x3 : Int32) (σ : nm_St), Rn X mi_Md_counsels F (nm_Qf X F nm_wV) [(0, .ref 70), (1, .int x1), (2, .int x2), (3, .int x3)] [] 168 σ (k_168 x1 x2 x3 σ)) : ∀ (n : Nat) (x1 : Int32) (x2 : Int32) (x3 : Int32) (x4 : Int32) (σ : nm_St), Rn X mi_Md_counsels F (nm_Qf X F nm_wV) [(0, .ref 70), (1, .int x1), (2, .int x2), (3, .int x3), (4, .int x4)] [] 79 σ (Md_counsels_l79 rec k_168 n x1 x2 x3 x4 σ) := by
  intro n
  induction n with
  | zero =>
    intro x1 x2 x3 x4 σ
    exact rn_none
  | succ n ih =>
    intro x1 x2 x3 x4 σ
    unfold Md_counsels_l79
    refine rn_iload (pc := 79) dk_Md_counsels_79 rfl ?_
    refine rn_aload_n (pc := 81) 0 dk_Md_counsels_81 rfl rfl rfl ?_
    refine gf_Md_90 (pc := 82) rfl dk_Md_counsels_82 ?_
    refine rn_icmp_ge (pc := 85) 168 dk_Md_counsels_85 (by decide) (fun c6 => ?_) (fun c6 => ?_)
    · exact rn_sub (by rfl) (hk_168 x1 x2 x3 σ)
    · refine rn_aload_n (pc := 88) 0 dk_Md_counsels_88 rfl rfl rfl ?_
      refine rn_iload (pc := 89) dk_Md_counsels_89 rfl ?_
      refine rn_iload_n (pc := 91) 3 dk_Md_counsels_91 rfl rfl ?_
      refine cl_Md_221 (pc := 92) (As := [.int x4, .int x3]) (st := []) rfl (ct_Md_mayDeed X x4 x3 σ) (by omega) rfl rfl (Nat.le_of_ble_eq_true rfl) dk_Md_counsels_92 (fun q7 => ?_)
      refine rn_if_ne (pc := 95) 101 dk_Md_counsels_95 (by decide) (fun c8 => ?_) (fun c8 => ?_)
      · refine rn_aload_n (pc := 101) 0 dk_Md_counsels_101 rfl rfl rfl ?_
        refine gf_Md_41 (pc := 102) rfl dk_Md_counsels_102 ?_
        refine rn_iload (pc := 105) dk_Md_counsels_105 rfl ?_
        refine rn_iaload (pc := 107) rfl dk_Md_counsels_107 (fun g9 => ?_)
        refine rn_leti (fun v10 => ?_)
        refine rn_istore (pc := 108) dk_Md_counsels_108 rfl rfl ?_
        refine rn_aload_n (pc := 110) 0 dk_Md_counsels_110 rfl rfl rfl ?_
        refine gf_Md_118 (pc := 111) rfl dk_Md_counsels_111 ?_
        refine rn_istore (pc := 114) dk_Md_counsels_114 rfl rfl ?_
        refine rn_aload_n (pc := 116) 0 dk_Md_counsels_116 rfl rfl rfl ?_
        refine rn_iload (pc := 117) dk_Md_counsels_117 rfl ?_
        refine rn_iload_n (pc := 119) 3 dk_Md_counsels_119 rfl rfl ?_
        refine cl_Md_224 (pc := 120) (As := [.int x4, .int x3]) (st := []) rfl (ct_Md_deeds X x4 x3 q7.2) (by omega) rfl rfl (Nat.le_of_ble_eq_true rfl) dk_Md_counsels_120 (fun q11 => ?_)
        refine rn_aload_n (pc := 123) 0 dk_Md_counsels_123 rfl rfl rfl ?_
        refine gf_Md_81 (pc := 124) rfl dk_Md_counsels_124 ?_
        refine rn_iload_n (pc := 127) 1 dk_Md_counsels_127 rfl rfl ?_
        refine rn_bipush (pc := 128) (10 : Int32) dk_Md_counsels_128 cn_b_10 ?_
        refine rn_bipush (pc := 130) (10 : Int32) dk_Md_counsels_130 cn_b_10 ?_
        refine rn_iload_n (pc := 132) 3 dk_Md_counsels_132 rfl rfl ?_
        refine rn_imul (pc := 133) dk_Md_counsels_133 ?_
        refine rn_iadd (pc := 134) dk_Md_counsels_134 ?_
        refine rn_iload (pc := 135) dk_Md_counsels_135 rfl ?_
        refine rn_iadd (pc := 137) dk_Md_counsels_137 ?_
        refine rn_iastore (pc := 138) rfl dk_Md_counsels_138 (fun g12 => ?_)
        refine rn_lets (fun s13 => ?_)
        refine rn_aload_n (pc := 139) 0 dk_Md_counsels_139 rfl rfl rfl ?_
        refine rn_iload_n (pc := 140) 1 dk_Md_counsels_140 rfl rfl ?_
        refine rn_iconst (pc := 141) (1 : Int32) dk_Md_counsels_141 cn_i_1 ?_
        refine rn_iadd (pc := 142) dk_Md_counsels_142 ?_
        refine rn_iload_n (pc := 143) 2 dk_Md_counsels_143 rfl rfl ?_
        refine cl_Md_217 (pc := 144) (As := [.int (x1 + (1 : Int32)), .int x2]) (st := []) rfl (hrec (x1 + (1 : Int32)) x2 s13) (by omega) rfl rfl (Nat.le_of_ble_eq_true rfl) dk_Md_counsels_144 (fun q14 => ?_)
        refine rn_aload_n (pc := 147) 0 dk_Md_counsels_147 rfl rfl rfl ?_
        refine gf_Md_41 (pc := 148) rfl dk_Md_counsels_148 ?_
        refine rn_iload (pc := 151) dk_Md_counsels_151 rfl ?_
        refine rn_iload (pc := 153) dk_Md_counsels_153 rfl ?_
        refine rn_iastore (pc := 155) rfl dk_Md_counsels_155 (fun g15 => ?_)
        refine rn_lets (fun s16 => ?_)
        refine rn_aload_n (pc := 156) 0 dk_Md_counsels_156 rfl rfl rfl ?_
        refine rn_iload (pc := 157) dk_Md_counsels_157 rfl ?_
        refine pf_Md_118 (pc := 159) rfl dk_Md_counsels_159 ?_
        refine rn_lets (fun s17 => ?_)
        refine rn_iinc (pc := 162) (1 : Int32) dk_Md_counsels_162 cn_i_1 rfl rfl rfl ?_
        refine rn_goto (pc := 165) 79 dk_Md_counsels_165 (by decide) ?_
        exact rn_sub (by rfl) (ih x1 x2 x3 (x4 + (1 : Int32)) s17)
      · refine rn_goto (pc := 98) 162 dk_Md_counsels_98 (by decide) ?_
        refine rn_iinc (pc := 162) (1 : Int32) dk_Md_counsels_162 cn_i_1 rfl rfl rfl ?_
        refine rn_goto (pc := 165) 79 dk_Md_counsels_165 (by decide) ?_
        exact rn_sub (by rfl) (ih x1 x2 x3 (x4 + (1 : Int32)) q7.2)
def Md_counsels_l71 (rec : Int32 → Int32 → nm_St → Option (Unit × nm_St)) (k_174 : nm_St → Option (Unit × nm_St)) : Nat → Int32 → Int32 → Int32 → nm_St → Option (Unit × nm_St)
  | 0, _, _, _, _ => none
  | n + 1, x1, x2, x3, σ =>
    (if (2 : Int32) ≤ x3 then
      k_174 σ
    else
      Md_counsels_l79 rec (fun (e19 : Int32) (e20 : Int32) (e21 : Int32) (s18 : nm_St) =>
        (Md_counsels_l71 rec k_174 n) e19 e20 (e21 + (1 : Int32)) s18) 400 x1 x2 x3 (0 : Int32) σ)
set_option maxRecDepth 100000 in
set_option maxHeartbeats 4000000 in
theorem r_Md_counsels_l71 (X : nm_X) (F : nm_F) (rec : Int32 → Int32 → nm_St → Option (Unit × nm_St)) (hR : Nat) (hrec : ∀ (p1 p2 : Int32) (σ : nm_St), Ct X mi_Md_counsels hR nm_wV [.ref 70, .int p1, .int p2] σ (rec p1 p2 σ)) (hR8 : 6 ≤ hR) (hF0 : hR + 1 ≤ nm_d F) (k_174 : nm_St → Option (Unit × nm_St)) (hk_174 : ∀ (σ : nm_St), Rn X mi_Md_counsels F (nm_Qf X F nm_wV) [] [] 174 σ (k_174 σ)) : ∀ (n : Nat) (x1 : Int32) (x2 : Int32) (x3 : Int32) (σ : nm_St), Rn X mi_Md_counsels F (nm_Qf X F nm_wV) [(0, .ref 70), (1, .int x1), (2, .int x2), (3, .int x3)] [] 71 σ (Md_counsels_l71 rec k_174 n x1 x2 x3 σ) := by
  intro n
  induction n with
  | zero =>
    intro x1 x2 x3 σ
    exact rn_none
  | succ n ih =>
    intro x1 x2 x3 σ
    unfold Md_counsels_l71
    refine rn_iload_n (pc := 71) 3 dk_Md_counsels_71 rfl rfl ?_
    refine rn_iconst (pc := 72) (2 : Int32) dk_Md_counsels_72 cn_i_2 ?_
    refine rn_icmp_ge (pc := 73) 174 dk_Md_counsels_73 (by decide) (fun c5 => ?_) (fun c5 => ?_)
    · exact rn_sub (by rfl) (hk_174 σ)
    · refine rn_iconst (pc := 76) (0 : Int32) dk_Md_counsels_76 cn_i_0 ?_
      refine rn_istore (pc := 77) dk_Md_counsels_77 rfl rfl ?_
      refine rn_sub (by rfl) (r_Md_counsels_l79 X F rec hR hrec hR8 hF0 _ (fun e19 e20 e21 s18 => ?_) 400 x1 x2 x3 (0 : Int32) σ)
      refine rn_iinc (pc := 168) (1 : Int32) dk_Md_counsels_168 cn_i_1 rfl rfl rfl ?_
      refine rn_goto (pc := 171) 71 dk_Md_counsels_171 (by decide) ?_
      exact rn_sub (by rfl) (ih e19 e20 (e21 + (1 : Int32)) s18)
def Md_counsels_l27 (rec : Int32 → Int32 → nm_St → Option (Unit × nm_St)) (k_53 : nm_St → Option (Unit × nm_St)) : Nat → Int32 → Int32 → nm_St → Option (Unit × nm_St)
  | 0, _, _, _ => none
  | n + 1, x2, x4, σ =>
    (if x2 ≤ x4 then
      k_53 σ
    else
      (nm_g (nm_in x4 2) (
      (nm_g (nm_in x4 2) (
      (nm_let (nm_pI σ 91 x4.toNatClampNeg (σ.1 90 x4.toNatClampNeg)) fun s29 =>
      (Md_counsels_l27 rec k_53 n) x2 (x4 + (1 : Int32)) s29))))))
set_option maxRecDepth 100000 in
set_option maxHeartbeats 4000000 in
theorem r_Md_counsels_l27 (X : nm_X) (F : nm_F) (rec : Int32 → Int32 → nm_St → Option (Unit × nm_St)) (hR : Nat) (hrec : ∀ (p1 p2 : Int32) (σ : nm_St), Ct X mi_Md_counsels hR nm_wV [.ref 70, .int p1, .int p2] σ (rec p1 p2 σ)) (hR8 : 6 ≤ hR) (hF0 : hR + 1 ≤ nm_d F) (k_53 : nm_St → Option (Unit × nm_St)) (hk_53 : ∀ (σ : nm_St), Rn X mi_Md_counsels F (nm_Qf X F nm_wV) [] [] 53 σ (k_53 σ)) : ∀ (n : Nat) (x2 : Int32) (x4 : Int32) (σ : nm_St), Rn X mi_Md_counsels F (nm_Qf X F nm_wV) [(0, .ref 70), (2, .int x2), (4, .int x4)] [] 27 σ (Md_counsels_l27 rec k_53 n x2 x4 σ) := by
  intro n
  induction n with
  | zero =>
    intro x2 x4 σ
    exact rn_none
  | succ n ih =>
    intro x2 x4 σ
    unfold Md_counsels_l27
    refine rn_iload (pc := 27) dk_Md_counsels_27 rfl ?_
    refine rn_iload_n (pc := 29) 2 dk_Md_counsels_29 rfl rfl ?_
    refine rn_icmp_ge (pc := 30) 53 dk_Md_counsels_30 (by decide) (fun c26 => ?_) (fun c26 => ?_)
    · exact rn_sub (by rfl) (hk_53 σ)
    · refine rn_aload_n (pc := 33) 0 dk_Md_counsels_33 rfl rfl rfl ?_
      refine gf_Md_84 (pc := 34) rfl dk_Md_counsels_34 ?_
      refine rn_iload (pc := 37) dk_Md_counsels_37 rfl ?_
      refine rn_aload_n (pc := 39) 0 dk_Md_counsels_39 rfl rfl rfl ?_
      refine gf_Md_81 (pc := 40) rfl dk_Md_counsels_40 ?_
      refine rn_iload (pc := 43) dk_Md_counsels_43 rfl ?_
      refine rn_iaload (pc := 45) rfl dk_Md_counsels_45 (fun g27 => ?_)
      refine rn_iastore (pc := 46) rfl dk_Md_counsels_46 (fun g28 => ?_)
      refine rn_lets (fun s29 => ?_)
      refine rn_iinc (pc := 47) (1 : Int32) dk_Md_counsels_47 cn_i_1 rfl rfl rfl ?_
      refine rn_goto (pc := 50) 27 dk_Md_counsels_50 (by decide) ?_
      exact rn_sub (by rfl) (ih x2 (x4 + (1 : Int32)) s29)
def Md_counselsB (rec : Int32 → Int32 → nm_St → Option (Unit × nm_St)) (p1 : Int32) (p2 : Int32) (σ : nm_St) : Option (Unit × nm_St) :=
  (if p1 = p2 then
    ((Md_costNow σ).bind fun q23 =>
    (if (q23.2.1 70 33) < q23.1 then
      (nm_let (nm_pI q23.2 70 33 q23.1) fun s25 =>
      Md_counsels_l27 rec (fun (s30 : nm_St) =>
        some ((), s30)) 400 p2 (0 : Int32) s25)
    else
      some ((), q23.2)))
  else
    (nm_g (nm_in p1 2) (
    (nm_let (nm_pI σ 90 p1.toNatClampNeg (0 : Int32)) fun s3 =>
    ((rec (p1 + (1 : Int32)) p2 s3).bind fun q4 =>
    Md_counsels_l71 rec (fun (s22 : nm_St) =>
      some ((), s22)) 400 p1 p2 (0 : Int32) q4.2)))))
set_option maxRecDepth 100000 in
set_option maxHeartbeats 4000000 in
theorem ct_Md_counselsB (X : nm_X) (rec : Int32 → Int32 → nm_St → Option (Unit × nm_St)) (hR : Nat) (hrec : ∀ (p1 p2 : Int32) (σ : nm_St), Ct X mi_Md_counsels hR nm_wV [.ref 70, .int p1, .int p2] σ (rec p1 p2 σ)) (hR8 : 6 ≤ hR) (p1 : Int32) (p2 : Int32) (σ : nm_St) : Ct X mi_Md_counsels (hR + 1) nm_wV [.ref 70, .int p1, .int p2] σ (Md_counselsB rec p1 p2 σ) := by
  refine Ct.of (by decide +kernel) rfl (fun F hF0 => ?_)
  unfold Md_counselsB
  refine rn_iload_n (pc := 0) 1 dk_Md_counsels_0 rfl rfl ?_
  refine rn_iload_n (pc := 1) 2 dk_Md_counsels_1 rfl rfl ?_
  refine rn_icmp_ne (pc := 2) 54 dk_Md_counsels_2 (by decide) (fun c1 => ?_) (fun c1 => ?_)
  · refine rn_aload_n (pc := 54) 0 dk_Md_counsels_54 rfl rfl rfl ?_
    refine gf_Md_81 (pc := 55) rfl dk_Md_counsels_55 ?_
    refine rn_iload_n (pc := 58) 1 dk_Md_counsels_58 rfl rfl ?_
    refine rn_iconst (pc := 59) (0 : Int32) dk_Md_counsels_59 cn_i_0 ?_
    refine rn_iastore (pc := 60) rfl dk_Md_counsels_60 (fun g2 => ?_)
    refine rn_lets (fun s3 => ?_)
    refine rn_aload_n (pc := 61) 0 dk_Md_counsels_61 rfl rfl rfl ?_
    refine rn_iload_n (pc := 62) 1 dk_Md_counsels_62 rfl rfl ?_
    refine rn_iconst (pc := 63) (1 : Int32) dk_Md_counsels_63 cn_i_1 ?_
    refine rn_iadd (pc := 64) dk_Md_counsels_64 ?_
    refine rn_iload_n (pc := 65) 2 dk_Md_counsels_65 rfl rfl ?_
    refine cl_Md_217 (pc := 66) (As := [.int (p1 + (1 : Int32)), .int p2]) (st := []) rfl (hrec (p1 + (1 : Int32)) p2 s3) (by omega) rfl rfl (Nat.le_of_ble_eq_true rfl) dk_Md_counsels_66 (fun q4 => ?_)
    refine rn_iconst (pc := 69) (0 : Int32) dk_Md_counsels_69 cn_i_0 ?_
    refine rn_istore_n (pc := 70) 3 dk_Md_counsels_70 rfl rfl rfl ?_
    refine rn_sub (by rfl) (r_Md_counsels_l71 X F rec hR hrec hR8 hF0 _ (fun s22 => ?_) 400 p1 p2 (0 : Int32) q4.2)
    exact rn_vret rfl dk_Md_counsels_174
  · refine rn_aload_n (pc := 5) 0 dk_Md_counsels_5 rfl rfl rfl ?_
    refine cl_Md_211 (pc := 6) (As := []) (st := []) rfl (ct_Md_costNow X σ) (by omega) rfl rfl (Nat.le_of_ble_eq_true rfl) dk_Md_counsels_6 (fun q23 => ?_)
    refine rn_istore_n (pc := 9) 3 dk_Md_counsels_9 rfl rfl rfl ?_
    refine rn_iload_n (pc := 10) 3 dk_Md_counsels_10 rfl rfl ?_
    refine rn_aload_n (pc := 11) 0 dk_Md_counsels_11 rfl rfl rfl ?_
    refine gf_Md_214 (pc := 12) rfl dk_Md_counsels_12 ?_
    refine rn_icmp_gt (pc := 15) 19 dk_Md_counsels_15 (by decide) (fun c24 => ?_) (fun c24 => ?_)
    · refine rn_aload_n (pc := 19) 0 dk_Md_counsels_19 rfl rfl rfl ?_
      refine rn_iload_n (pc := 20) 3 dk_Md_counsels_20 rfl rfl ?_
      refine pf_Md_214 (pc := 21) rfl dk_Md_counsels_21 ?_
      refine rn_lets (fun s25 => ?_)
      refine rn_iconst (pc := 24) (0 : Int32) dk_Md_counsels_24 cn_i_0 ?_
      refine rn_istore (pc := 25) dk_Md_counsels_25 rfl rfl ?_
      refine rn_sub (by rfl) (r_Md_counsels_l27 X F rec hR hrec hR8 hF0 _ (fun s30 => ?_) 400 p2 (0 : Int32) s25)
      exact rn_vret rfl dk_Md_counsels_53
    · exact rn_vret rfl dk_Md_counsels_18
def Md_counsels : Nat → Int32 → Int32 → nm_St → Option (Unit × nm_St)
  | 0, _, _, _ => none
  | n + 1, p1, p2, σ => Md_counselsB (Md_counsels n) p1 p2 σ
theorem ct_Md_counsels (X : nm_X) : ∀ (n : Nat) (p1 p2 : Int32) (σ : nm_St), Ct X mi_Md_counsels (6 + n) nm_wV [.ref 70, .int p1, .int p2] σ (Md_counsels n p1 p2 σ)
  | 0, _, _, _ => fun _ _ _ _ h => by cases h
  | n + 1, p1, p2, σ => ct_Md_counselsB X (Md_counsels n) (6 + n) (fun p1 p2 σ => ct_Md_counsels X n p1 p2 σ) (Nat.le_add_right _ _) p1 p2 σ
theorem dk_Md_council_0 : decode mi_Md_council.2.1 0 = .ok (.iload_n 1, 1) := by decide +kernel
theorem dk_Md_council_1 : decode mi_Md_council.2.1 1 = .ok (.ifCond .lt 8, 3) := by decide +kernel
theorem dk_Md_council_4 : decode mi_Md_council.2.1 4 = .ok (.iload_n 1, 1) := by decide +kernel
theorem dk_Md_council_5 : decode mi_Md_council.2.1 5 = .ok (.iconst 2, 1) := by decide +kernel
theorem dk_Md_council_6 : decode mi_Md_council.2.1 6 = .ok (.if_icmp .le 10, 3) := by decide +kernel
theorem dk_Md_council_9 : decode mi_Md_council.2.1 9 = .ok (.aload_n 0, 1) := by decide +kernel
theorem dk_Md_council_10 : decode mi_Md_council.2.1 10 = .ok (.bipush (-6), 2) := by decide +kernel
theorem dk_Md_council_12 : decode mi_Md_council.2.1 12 = .ok (.invokevirtual 97, 3) := by decide +kernel
theorem dk_Md_council_15 : decode mi_Md_council.2.1 15 = .ok (.ireturn, 1) := by decide +kernel
theorem dk_Md_council_16 : decode mi_Md_council.2.1 16 = .ok (.iload_n 2, 1) := by decide +kernel
theorem dk_Md_council_17 : decode mi_Md_council.2.1 17 = .ok (.iconst (-1), 1) := by decide +kernel
theorem dk_Md_council_18 : decode mi_Md_council.2.1 18 = .ok (.if_icmp .lt 8, 3) := by decide +kernel
theorem dk_Md_council_21 : decode mi_Md_council.2.1 21 = .ok (.iload_n 2, 1) := by decide +kernel
theorem dk_Md_council_22 : decode mi_Md_council.2.1 22 = .ok (.iload_n 1, 1) := by decide +kernel
theorem dk_Md_council_23 : decode mi_Md_council.2.1 23 = .ok (.if_icmp .lt 10, 3) := by decide +kernel
theorem dk_Md_council_26 : decode mi_Md_council.2.1 26 = .ok (.aload_n 0, 1) := by decide +kernel
theorem dk_Md_council_27 : decode mi_Md_council.2.1 27 = .ok (.bipush (-5), 2) := by decide +kernel
theorem dk_Md_council_29 : decode mi_Md_council.2.1 29 = .ok (.invokevirtual 97, 3) := by decide +kernel
theorem dk_Md_council_32 : decode mi_Md_council.2.1 32 = .ok (.ireturn, 1) := by decide +kernel
theorem dk_Md_council_33 : decode mi_Md_council.2.1 33 = .ok (.aload_n 0, 1) := by decide +kernel
theorem dk_Md_council_34 : decode mi_Md_council.2.1 34 = .ok (.iconst (-1), 1) := by decide +kernel
theorem dk_Md_council_35 : decode mi_Md_council.2.1 35 = .ok (.putfield 214, 3) := by decide +kernel
theorem dk_Md_council_38 : decode mi_Md_council.2.1 38 = .ok (.aload_n 0, 1) := by decide +kernel
theorem dk_Md_council_39 : decode mi_Md_council.2.1 39 = .ok (.iconst 0, 1) := by decide +kernel
theorem dk_Md_council_40 : decode mi_Md_council.2.1 40 = .ok (.iload_n 1, 1) := by decide +kernel
theorem dk_Md_council_41 : decode mi_Md_council.2.1 41 = .ok (.invokevirtual 217, 3) := by decide +kernel
theorem dk_Md_council_44 : decode mi_Md_council.2.1 44 = .ok (.iload_n 2, 1) := by decide +kernel
theorem dk_Md_council_45 : decode mi_Md_council.2.1 45 = .ok (.iconst (-1), 1) := by decide +kernel
theorem dk_Md_council_46 : decode mi_Md_council.2.1 46 = .ok (.if_icmp .ne 10, 3) := by decide +kernel
theorem dk_Md_council_49 : decode mi_Md_council.2.1 49 = .ok (.aload_n 0, 1) := by decide +kernel
theorem dk_Md_council_50 : decode mi_Md_council.2.1 50 = .ok (.getfield 214, 3) := by decide +kernel
theorem dk_Md_council_53 : decode mi_Md_council.2.1 53 = .ok (.goto 9, 3) := by decide +kernel
theorem dk_Md_council_56 : decode mi_Md_council.2.1 56 = .ok (.aload_n 0, 1) := by decide +kernel
theorem dk_Md_council_57 : decode mi_Md_council.2.1 57 = .ok (.getfield 84, 3) := by decide +kernel
theorem dk_Md_council_60 : decode mi_Md_council.2.1 60 = .ok (.iload_n 2, 1) := by decide +kernel
theorem dk_Md_council_61 : decode mi_Md_council.2.1 61 = .ok (.iaload, 1) := by decide +kernel
theorem dk_Md_council_62 : decode mi_Md_council.2.1 62 = .ok (.ireturn, 1) := by decide +kernel
def Md_council (p1 : Int32) (p2 : Int32) (σ : nm_St) : Option (Int32 × nm_St) :=
  (if p1 < 0 then
    ((Md_no (-6 : Int32) σ).bind fun q2 =>
    some (q2.1, q2.2))
  else
    (if p1 ≤ (2 : Int32) then
      (if p2 < (-1 : Int32) then
        ((Md_no (-5 : Int32) σ).bind fun q5 =>
        some (q5.1, q5.2))
      else
        (if p2 < p1 then
          (nm_let (nm_pI σ 70 33 (-1 : Int32)) fun s7 =>
          ((Md_counsels 4 (0 : Int32) p1 s7).bind fun q8 =>
          (if p2 = (-1 : Int32) then
            some ((q8.2.1 70 33), q8.2)
          else
            (nm_g (nm_in p2 2) (
            some ((q8.2.1 91 p2.toNatClampNeg), q8.2))))))
        else
          ((Md_no (-5 : Int32) σ).bind fun q11 =>
          some (q11.1, q11.2))))
    else
      ((Md_no (-6 : Int32) σ).bind fun q12 =>
      some (q12.1, q12.2))))
set_option maxRecDepth 100000 in
set_option maxHeartbeats 4000000 in
theorem ct_Md_council (X : nm_X) (p1 : Int32) (p2 : Int32) (σ : nm_St) : Ct X mi_Md_council 11 nm_wI [.ref 70, .int p1, .int p2] σ (Md_council p1 p2 σ) := by
  refine Ct.of (by decide +kernel) rfl (fun F hF0 => ?_)
  unfold Md_council
  refine rn_iload_n (pc := 0) 1 dk_Md_council_0 rfl rfl ?_
  refine rn_if_lt (pc := 1) 9 dk_Md_council_1 (by decide) (fun c1 => ?_) (fun c1 => ?_)
  · refine rn_aload_n (pc := 9) 0 dk_Md_council_9 rfl rfl rfl ?_
    refine rn_bipush (pc := 10) (-6 : Int32) dk_Md_council_10 cn_b_m6 ?_
    refine cl_Md_97 (pc := 12) (As := [.int (-6 : Int32)]) (st := []) rfl (ct_Md_no X (-6 : Int32) σ) (Nat.le_trans (Nat.le_of_ble_eq_true rfl) hF0) rfl rfl (Nat.le_of_ble_eq_true rfl) dk_Md_council_12 (fun q2 => ?_)
    exact rn_iret rfl dk_Md_council_15
  · refine rn_iload_n (pc := 4) 1 dk_Md_council_4 rfl rfl ?_
    refine rn_iconst (pc := 5) (2 : Int32) dk_Md_council_5 cn_i_2 ?_
    refine rn_icmp_le (pc := 6) 16 dk_Md_council_6 (by decide) (fun c3 => ?_) (fun c3 => ?_)
    · refine rn_iload_n (pc := 16) 2 dk_Md_council_16 rfl rfl ?_
      refine rn_iconst (pc := 17) (-1 : Int32) dk_Md_council_17 cn_i_m1 ?_
      refine rn_icmp_lt (pc := 18) 26 dk_Md_council_18 (by decide) (fun c4 => ?_) (fun c4 => ?_)
      · refine rn_aload_n (pc := 26) 0 dk_Md_council_26 rfl rfl rfl ?_
        refine rn_bipush (pc := 27) (-5 : Int32) dk_Md_council_27 cn_b_m5 ?_
        refine cl_Md_97 (pc := 29) (As := [.int (-5 : Int32)]) (st := []) rfl (ct_Md_no X (-5 : Int32) σ) (Nat.le_trans (Nat.le_of_ble_eq_true rfl) hF0) rfl rfl (Nat.le_of_ble_eq_true rfl) dk_Md_council_29 (fun q5 => ?_)
        exact rn_iret rfl dk_Md_council_32
      · refine rn_iload_n (pc := 21) 2 dk_Md_council_21 rfl rfl ?_
        refine rn_iload_n (pc := 22) 1 dk_Md_council_22 rfl rfl ?_
        refine rn_icmp_lt (pc := 23) 33 dk_Md_council_23 (by decide) (fun c6 => ?_) (fun c6 => ?_)
        · refine rn_aload_n (pc := 33) 0 dk_Md_council_33 rfl rfl rfl ?_
          refine rn_iconst (pc := 34) (-1 : Int32) dk_Md_council_34 cn_i_m1 ?_
          refine pf_Md_214 (pc := 35) rfl dk_Md_council_35 ?_
          refine rn_lets (fun s7 => ?_)
          refine rn_aload_n (pc := 38) 0 dk_Md_council_38 rfl rfl rfl ?_
          refine rn_iconst (pc := 39) (0 : Int32) dk_Md_council_39 cn_i_0 ?_
          refine rn_iload_n (pc := 40) 1 dk_Md_council_40 rfl rfl ?_
          refine cl_Md_217 (pc := 41) (As := [.int (0 : Int32), .int p1]) (st := []) rfl (ct_Md_counsels X 4 (0 : Int32) p1 s7) (Nat.le_trans (Nat.le_of_ble_eq_true rfl) hF0) rfl rfl (Nat.le_of_ble_eq_true rfl) dk_Md_council_41 (fun q8 => ?_)
          refine rn_iload_n (pc := 44) 2 dk_Md_council_44 rfl rfl ?_
          refine rn_iconst (pc := 45) (-1 : Int32) dk_Md_council_45 cn_i_m1 ?_
          refine rn_icmp_ne (pc := 46) 56 dk_Md_council_46 (by decide) (fun c9 => ?_) (fun c9 => ?_)
          · refine rn_aload_n (pc := 56) 0 dk_Md_council_56 rfl rfl rfl ?_
            refine gf_Md_84 (pc := 57) rfl dk_Md_council_57 ?_
            refine rn_iload_n (pc := 60) 2 dk_Md_council_60 rfl rfl ?_
            refine rn_iaload (pc := 61) rfl dk_Md_council_61 (fun g10 => ?_)
            exact rn_iret rfl dk_Md_council_62
          · refine rn_aload_n (pc := 49) 0 dk_Md_council_49 rfl rfl rfl ?_
            refine gf_Md_214 (pc := 50) rfl dk_Md_council_50 ?_
            refine rn_goto (pc := 53) 62 dk_Md_council_53 (by decide) ?_
            exact rn_iret rfl dk_Md_council_62
        · refine rn_aload_n (pc := 26) 0 dk_Md_council_26 rfl rfl rfl ?_
          refine rn_bipush (pc := 27) (-5 : Int32) dk_Md_council_27 cn_b_m5 ?_
          refine cl_Md_97 (pc := 29) (As := [.int (-5 : Int32)]) (st := []) rfl (ct_Md_no X (-5 : Int32) σ) (Nat.le_trans (Nat.le_of_ble_eq_true rfl) hF0) rfl rfl (Nat.le_of_ble_eq_true rfl) dk_Md_council_29 (fun q11 => ?_)
          exact rn_iret rfl dk_Md_council_32
    · refine rn_aload_n (pc := 9) 0 dk_Md_council_9 rfl rfl rfl ?_
      refine rn_bipush (pc := 10) (-6 : Int32) dk_Md_council_10 cn_b_m6 ?_
      refine cl_Md_97 (pc := 12) (As := [.int (-6 : Int32)]) (st := []) rfl (ct_Md_no X (-6 : Int32) σ) (Nat.le_trans (Nat.le_of_ble_eq_true rfl) hF0) rfl rfl (Nat.le_of_ble_eq_true rfl) dk_Md_council_12 (fun q12 => ?_)
      exact rn_iret rfl dk_Md_council_15
theorem dk_Md_barsOf_0 : decode mi_Md_barsOf.2.1 0 = .ok (.aload_n 0, 1) := by decide +kernel
theorem dk_Md_barsOf_1 : decode mi_Md_barsOf.2.1 1 = .ok (.iload_n 1, 1) := by decide +kernel
theorem dk_Md_barsOf_2 : decode mi_Md_barsOf.2.1 2 = .ok (.invokevirtual 164, 3) := by decide +kernel
theorem dk_Md_barsOf_5 : decode mi_Md_barsOf.2.1 5 = .ok (.istore_n 3, 1) := by decide +kernel
theorem dk_Md_barsOf_6 : decode mi_Md_barsOf.2.1 6 = .ok (.iload_n 3, 1) := by decide +kernel
theorem dk_Md_barsOf_7 : decode mi_Md_barsOf.2.1 7 = .ok (.ifCond .eq 7, 3) := by decide +kernel
theorem dk_Md_barsOf_10 : decode mi_Md_barsOf.2.1 10 = .ok (.iload_n 3, 1) := by decide +kernel
theorem dk_Md_barsOf_11 : decode mi_Md_barsOf.2.1 11 = .ok (.goto 39, 3) := by decide +kernel
theorem dk_Md_barsOf_14 : decode mi_Md_barsOf.2.1 14 = .ok (.iload_n 2, 1) := by decide +kernel
theorem dk_Md_barsOf_15 : decode mi_Md_barsOf.2.1 15 = .ok (.ifCond .ge 8, 3) := by decide +kernel
theorem dk_Md_barsOf_18 : decode mi_Md_barsOf.2.1 18 = .ok (.bipush (-4), 2) := by decide +kernel
theorem dk_Md_barsOf_20 : decode mi_Md_barsOf.2.1 20 = .ok (.goto 30, 3) := by decide +kernel
theorem dk_Md_barsOf_23 : decode mi_Md_barsOf.2.1 23 = .ok (.iload_n 2, 1) := by decide +kernel
theorem dk_Md_barsOf_24 : decode mi_Md_barsOf.2.1 24 = .ok (.aload_n 0, 1) := by decide +kernel
theorem dk_Md_barsOf_25 : decode mi_Md_barsOf.2.1 25 = .ok (.getfield 50, 3) := by decide +kernel
theorem dk_Md_barsOf_28 : decode mi_Md_barsOf.2.1 28 = .ok (.iload_n 1, 1) := by decide +kernel
theorem dk_Md_barsOf_29 : decode mi_Md_barsOf.2.1 29 = .ok (.iaload, 1) := by decide +kernel
theorem dk_Md_barsOf_30 : decode mi_Md_barsOf.2.1 30 = .ok (.if_icmp .le 8, 3) := by decide +kernel
theorem dk_Md_barsOf_33 : decode mi_Md_barsOf.2.1 33 = .ok (.bipush (-5), 2) := by decide +kernel
theorem dk_Md_barsOf_35 : decode mi_Md_barsOf.2.1 35 = .ok (.goto 15, 3) := by decide +kernel
theorem dk_Md_barsOf_38 : decode mi_Md_barsOf.2.1 38 = .ok (.iload_n 2, 1) := by decide +kernel
theorem dk_Md_barsOf_39 : decode mi_Md_barsOf.2.1 39 = .ok (.bipush 40, 2) := by decide +kernel
theorem dk_Md_barsOf_41 : decode mi_Md_barsOf.2.1 41 = .ok (.if_icmp .le 8, 3) := by decide +kernel
theorem dk_Md_barsOf_44 : decode mi_Md_barsOf.2.1 44 = .ok (.bipush (-6), 2) := by decide +kernel
theorem dk_Md_barsOf_46 : decode mi_Md_barsOf.2.1 46 = .ok (.goto 4, 3) := by decide +kernel
theorem dk_Md_barsOf_49 : decode mi_Md_barsOf.2.1 49 = .ok (.iconst 0, 1) := by decide +kernel
theorem dk_Md_barsOf_50 : decode mi_Md_barsOf.2.1 50 = .ok (.ireturn, 1) := by decide +kernel
def Md_barsOf (p1 : Int32) (p2 : Int32) (σ : nm_St) : Option (Int32 × nm_St) :=
  ((Md_wanted p1 σ).bind fun q1 =>
  (if q1.1 = 0 then
    (if 0 ≤ p2 then
      (nm_g (nm_in p1 8) (
      (if p2 ≤ (q1.2.1 80 p1.toNatClampNeg) then
        (if p2 ≤ (40 : Int32) then
          some ((0 : Int32), q1.2)
        else
          some ((-6 : Int32), q1.2))
      else
        some ((-5 : Int32), q1.2))))
    else
      some ((-4 : Int32), q1.2))
  else
    some (q1.1, q1.2)))
set_option maxRecDepth 100000 in
set_option maxHeartbeats 4000000 in
theorem ct_Md_barsOf (X : nm_X) (p1 : Int32) (p2 : Int32) (σ : nm_St) : Ct X mi_Md_barsOf 2 nm_wI [.ref 70, .int p1, .int p2] σ (Md_barsOf p1 p2 σ) := by
  refine Ct.of (by decide +kernel) rfl (fun F hF0 => ?_)
  unfold Md_barsOf
  refine rn_aload_n (pc := 0) 0 dk_Md_barsOf_0 rfl rfl rfl ?_
  refine rn_iload_n (pc := 1) 1 dk_Md_barsOf_1 rfl rfl ?_
  refine cl_Md_164 (pc := 2) (As := [.int p1]) (st := []) rfl (ct_Md_wanted X p1 σ) (Nat.le_trans (Nat.le_of_ble_eq_true rfl) hF0) rfl rfl (Nat.le_of_ble_eq_true rfl) dk_Md_barsOf_2 (fun q1 => ?_)
  refine rn_istore_n (pc := 5) 3 dk_Md_barsOf_5 rfl rfl rfl ?_
  refine rn_iload_n (pc := 6) 3 dk_Md_barsOf_6 rfl rfl ?_
  refine rn_if_eq (pc := 7) 14 dk_Md_barsOf_7 (by decide) (fun c2 => ?_) (fun c2 => ?_)
  · refine rn_iload_n (pc := 14) 2 dk_Md_barsOf_14 rfl rfl ?_
    refine rn_if_ge (pc := 15) 23 dk_Md_barsOf_15 (by decide) (fun c3 => ?_) (fun c3 => ?_)
    · refine rn_iload_n (pc := 23) 2 dk_Md_barsOf_23 rfl rfl ?_
      refine rn_aload_n (pc := 24) 0 dk_Md_barsOf_24 rfl rfl rfl ?_
      refine gf_Md_50 (pc := 25) rfl dk_Md_barsOf_25 ?_
      refine rn_iload_n (pc := 28) 1 dk_Md_barsOf_28 rfl rfl ?_
      refine rn_iaload (pc := 29) rfl dk_Md_barsOf_29 (fun g4 => ?_)
      refine rn_icmp_le (pc := 30) 38 dk_Md_barsOf_30 (by decide) (fun c5 => ?_) (fun c5 => ?_)
      · refine rn_iload_n (pc := 38) 2 dk_Md_barsOf_38 rfl rfl ?_
        refine rn_bipush (pc := 39) (40 : Int32) dk_Md_barsOf_39 cn_b_40 ?_
        refine rn_icmp_le (pc := 41) 49 dk_Md_barsOf_41 (by decide) (fun c6 => ?_) (fun c6 => ?_)
        · refine rn_iconst (pc := 49) (0 : Int32) dk_Md_barsOf_49 cn_i_0 ?_
          exact rn_iret rfl dk_Md_barsOf_50
        · refine rn_bipush (pc := 44) (-6 : Int32) dk_Md_barsOf_44 cn_b_m6 ?_
          refine rn_goto (pc := 46) 50 dk_Md_barsOf_46 (by decide) ?_
          exact rn_iret rfl dk_Md_barsOf_50
      · refine rn_bipush (pc := 33) (-5 : Int32) dk_Md_barsOf_33 cn_b_m5 ?_
        refine rn_goto (pc := 35) 50 dk_Md_barsOf_35 (by decide) ?_
        exact rn_iret rfl dk_Md_barsOf_50
    · refine rn_bipush (pc := 18) (-4 : Int32) dk_Md_barsOf_18 cn_b_m4 ?_
      refine rn_goto (pc := 20) 50 dk_Md_barsOf_20 (by decide) ?_
      exact rn_iret rfl dk_Md_barsOf_50
  · refine rn_iload_n (pc := 10) 3 dk_Md_barsOf_10 rfl rfl ?_
    refine rn_goto (pc := 11) 50 dk_Md_barsOf_11 (by decide) ?_
    exact rn_iret rfl dk_Md_barsOf_50
theorem dk_Md_intAt_0 : decode mi_Md_intAt.2.1 0 = .ok (.aload_n 0, 1) := by decide +kernel
theorem dk_Md_intAt_1 : decode mi_Md_intAt.2.1 1 = .ok (.getfield 56, 3) := by decide +kernel
theorem dk_Md_intAt_4 : decode mi_Md_intAt.2.1 4 = .ok (.sipush 160, 3) := by decide +kernel
theorem dk_Md_intAt_7 : decode mi_Md_intAt.2.1 7 = .ok (.iload_n 1, 1) := by decide +kernel
theorem dk_Md_intAt_8 : decode mi_Md_intAt.2.1 8 = .ok (.imul, 1) := by decide +kernel
theorem dk_Md_intAt_9 : decode mi_Md_intAt.2.1 9 = .ok (.iload_n 2, 1) := by decide +kernel
theorem dk_Md_intAt_10 : decode mi_Md_intAt.2.1 10 = .ok (.iadd, 1) := by decide +kernel
theorem dk_Md_intAt_11 : decode mi_Md_intAt.2.1 11 = .ok (.laload, 1) := by decide +kernel
theorem dk_Md_intAt_12 : decode mi_Md_intAt.2.1 12 = .ok (.l2i, 1) := by decide +kernel
theorem dk_Md_intAt_13 : decode mi_Md_intAt.2.1 13 = .ok (.ireturn, 1) := by decide +kernel
def Md_intAt (p1 : Int32) (p2 : Int32) (σ : nm_St) : Option (Int32 × nm_St) :=
  (nm_g (nm_in (((160 : Int32) * p1) + p2) 1280) (
  some ((Int64.toInt32 (σ.2 82 (((160 : Int32) * p1) + p2).toNatClampNeg)), σ)))
set_option maxRecDepth 100000 in
set_option maxHeartbeats 4000000 in
theorem ct_Md_intAt (X : nm_X) (p1 : Int32) (p2 : Int32) (σ : nm_St) : Ct X mi_Md_intAt 0 nm_wI [.ref 70, .int p1, .int p2] σ (Md_intAt p1 p2 σ) := by
  refine Ct.of (by decide +kernel) rfl (fun F hF0 => ?_)
  unfold Md_intAt
  refine rn_aload_n (pc := 0) 0 dk_Md_intAt_0 rfl rfl rfl ?_
  refine gf_Md_56 (pc := 1) rfl dk_Md_intAt_1 ?_
  refine rn_sipush (pc := 4) (160 : Int32) dk_Md_intAt_4 cn_s_160 ?_
  refine rn_iload_n (pc := 7) 1 dk_Md_intAt_7 rfl rfl ?_
  refine rn_imul (pc := 8) dk_Md_intAt_8 ?_
  refine rn_iload_n (pc := 9) 2 dk_Md_intAt_9 rfl rfl ?_
  refine rn_iadd (pc := 10) dk_Md_intAt_10 ?_
  refine rn_laload (pc := 11) rfl dk_Md_intAt_11 (fun g1 => ?_)
  refine rn_l2i (pc := 12) dk_Md_intAt_12 ?_
  exact rn_iret rfl dk_Md_intAt_13
theorem dk_Md_barsOfLetter_0 : decode mi_Md_barsOfLetter.2.1 0 = .ok (.aload_n 0, 1) := by decide +kernel
theorem dk_Md_barsOfLetter_1 : decode mi_Md_barsOfLetter.2.1 1 = .ok (.iload_n 1, 1) := by decide +kernel
theorem dk_Md_barsOfLetter_2 : decode mi_Md_barsOfLetter.2.1 2 = .ok (.iload_n 2, 1) := by decide +kernel
theorem dk_Md_barsOfLetter_3 : decode mi_Md_barsOfLetter.2.1 3 = .ok (.invokevirtual 227, 3) := by decide +kernel
theorem dk_Md_barsOfLetter_6 : decode mi_Md_barsOfLetter.2.1 6 = .ok (.istore_n 3, 1) := by decide +kernel
theorem dk_Md_barsOfLetter_7 : decode mi_Md_barsOfLetter.2.1 7 = .ok (.iconst 0, 1) := by decide +kernel
theorem dk_Md_barsOfLetter_8 : decode mi_Md_barsOfLetter.2.1 8 = .ok (.istore 4, 2) := by decide +kernel
theorem dk_Md_barsOfLetter_10 : decode mi_Md_barsOfLetter.2.1 10 = .ok (.iload 4, 2) := by decide +kernel
theorem dk_Md_barsOfLetter_12 : decode mi_Md_barsOfLetter.2.1 12 = .ok (.iload_n 2, 1) := by decide +kernel
theorem dk_Md_barsOfLetter_13 : decode mi_Md_barsOfLetter.2.1 13 = .ok (.if_icmp .ge 38, 3) := by decide +kernel
theorem dk_Md_barsOfLetter_16 : decode mi_Md_barsOfLetter.2.1 16 = .ok (.iload_n 3, 1) := by decide +kernel
theorem dk_Md_barsOfLetter_17 : decode mi_Md_barsOfLetter.2.1 17 = .ok (.ifCond .ne 34, 3) := by decide +kernel
theorem dk_Md_barsOfLetter_20 : decode mi_Md_barsOfLetter.2.1 20 = .ok (.aload_n 0, 1) := by decide +kernel
theorem dk_Md_barsOfLetter_21 : decode mi_Md_barsOfLetter.2.1 21 = .ok (.iload_n 1, 1) := by decide +kernel
theorem dk_Md_barsOfLetter_22 : decode mi_Md_barsOfLetter.2.1 22 = .ok (.iload 4, 2) := by decide +kernel
theorem dk_Md_barsOfLetter_24 : decode mi_Md_barsOfLetter.2.1 24 = .ok (.invokevirtual 230, 3) := by decide +kernel
theorem dk_Md_barsOfLetter_27 : decode mi_Md_barsOfLetter.2.1 27 = .ok (.ifCond .lt 15, 3) := by decide +kernel
theorem dk_Md_barsOfLetter_30 : decode mi_Md_barsOfLetter.2.1 30 = .ok (.aload_n 0, 1) := by decide +kernel
theorem dk_Md_barsOfLetter_31 : decode mi_Md_barsOfLetter.2.1 31 = .ok (.iload_n 1, 1) := by decide +kernel
theorem dk_Md_barsOfLetter_32 : decode mi_Md_barsOfLetter.2.1 32 = .ok (.iload 4, 2) := by decide +kernel
theorem dk_Md_barsOfLetter_34 : decode mi_Md_barsOfLetter.2.1 34 = .ok (.invokevirtual 230, 3) := by decide +kernel
theorem dk_Md_barsOfLetter_37 : decode mi_Md_barsOfLetter.2.1 37 = .ok (.bipush 7, 2) := by decide +kernel
theorem dk_Md_barsOfLetter_39 : decode mi_Md_barsOfLetter.2.1 39 = .ok (.if_icmp .le 6, 3) := by decide +kernel
theorem dk_Md_barsOfLetter_42 : decode mi_Md_barsOfLetter.2.1 42 = .ok (.bipush (-6), 2) := by decide +kernel
theorem dk_Md_barsOfLetter_44 : decode mi_Md_barsOfLetter.2.1 44 = .ok (.istore_n 3, 1) := by decide +kernel
theorem dk_Md_barsOfLetter_45 : decode mi_Md_barsOfLetter.2.1 45 = .ok (.iinc 4 1, 3) := by decide +kernel
theorem dk_Md_barsOfLetter_48 : decode mi_Md_barsOfLetter.2.1 48 = .ok (.goto (-38), 3) := by decide +kernel
theorem dk_Md_barsOfLetter_51 : decode mi_Md_barsOfLetter.2.1 51 = .ok (.iload_n 3, 1) := by decide +kernel
theorem dk_Md_barsOfLetter_52 : decode mi_Md_barsOfLetter.2.1 52 = .ok (.ireturn, 1) := by decide +kernel
def Md_barsOfLetter_l10 (k_51 : Int32 → nm_St → Option (Int32 × nm_St)) : Nat → Int32 → Int32 → Int32 → Int32 → nm_St → Option (Int32 × nm_St)
  | 0, _, _, _, _, _ => none
  | n + 1, x1, x2, x3, x4, σ =>
    (if x2 ≤ x4 then
      k_51 x3 σ
    else
      (if x3 = 0 then
        ((Md_intAt x1 x4 σ).bind fun q4 =>
        (if q4.1 < 0 then
          (Md_barsOfLetter_l10 k_51 n) x1 x2 (-6 : Int32) (x4 + (1 : Int32)) q4.2
        else
          ((Md_intAt x1 x4 q4.2).bind fun q6 =>
          (if q6.1 ≤ (7 : Int32) then
            (Md_barsOfLetter_l10 k_51 n) x1 x2 x3 (x4 + (1 : Int32)) q6.2
          else
            (Md_barsOfLetter_l10 k_51 n) x1 x2 (-6 : Int32) (x4 + (1 : Int32)) q6.2))))
      else
        k_51 x3 σ))
set_option maxRecDepth 100000 in
set_option maxHeartbeats 4000000 in
theorem r_Md_barsOfLetter_l10 (X : nm_X) (F : nm_F) (hF0 : 3 ≤ nm_d F) (k_51 : Int32 → nm_St → Option (Int32 × nm_St)) (hk_51 : ∀ (x3 : Int32) (σ : nm_St), Rn X mi_Md_barsOfLetter F (nm_Qf X F nm_wI) [(3, .int x3)] [] 51 σ (k_51 x3 σ)) : ∀ (n : Nat) (x1 : Int32) (x2 : Int32) (x3 : Int32) (x4 : Int32) (σ : nm_St), Rn X mi_Md_barsOfLetter F (nm_Qf X F nm_wI) [(0, .ref 70), (1, .int x1), (2, .int x2), (3, .int x3), (4, .int x4)] [] 10 σ (Md_barsOfLetter_l10 k_51 n x1 x2 x3 x4 σ) := by
  intro n
  induction n with
  | zero =>
    intro x1 x2 x3 x4 σ
    exact rn_none
  | succ n ih =>
    intro x1 x2 x3 x4 σ
    unfold Md_barsOfLetter_l10
    refine rn_iload (pc := 10) dk_Md_barsOfLetter_10 rfl ?_
    refine rn_iload_n (pc := 12) 2 dk_Md_barsOfLetter_12 rfl rfl ?_
    refine rn_icmp_ge (pc := 13) 51 dk_Md_barsOfLetter_13 (by decide) (fun c2 => ?_) (fun c2 => ?_)
    · exact rn_sub (by rfl) (hk_51 x3 σ)
    · refine rn_iload_n (pc := 16) 3 dk_Md_barsOfLetter_16 rfl rfl ?_
      refine rn_if_ne (pc := 17) 51 dk_Md_barsOfLetter_17 (by decide) (fun c3 => ?_) (fun c3 => ?_)
      · exact rn_sub (by rfl) (hk_51 x3 σ)
      · refine rn_aload_n (pc := 20) 0 dk_Md_barsOfLetter_20 rfl rfl rfl ?_
        refine rn_iload_n (pc := 21) 1 dk_Md_barsOfLetter_21 rfl rfl ?_
        refine rn_iload (pc := 22) dk_Md_barsOfLetter_22 rfl ?_
        refine cl_Md_230 (pc := 24) (As := [.int x1, .int x4]) (st := []) rfl (ct_Md_intAt X x1 x4 σ) (Nat.le_trans (Nat.le_of_ble_eq_true rfl) hF0) rfl rfl (Nat.le_of_ble_eq_true rfl) dk_Md_barsOfLetter_24 (fun q4 => ?_)
        refine rn_if_lt (pc := 27) 42 dk_Md_barsOfLetter_27 (by decide) (fun c5 => ?_) (fun c5 => ?_)
        · refine rn_bipush (pc := 42) (-6 : Int32) dk_Md_barsOfLetter_42 cn_b_m6 ?_
          refine rn_istore_n (pc := 44) 3 dk_Md_barsOfLetter_44 rfl rfl rfl ?_
          refine rn_iinc (pc := 45) (1 : Int32) dk_Md_barsOfLetter_45 cn_i_1 rfl rfl rfl ?_
          refine rn_goto (pc := 48) 10 dk_Md_barsOfLetter_48 (by decide) ?_
          exact rn_sub (by rfl) (ih x1 x2 (-6 : Int32) (x4 + (1 : Int32)) q4.2)
        · refine rn_aload_n (pc := 30) 0 dk_Md_barsOfLetter_30 rfl rfl rfl ?_
          refine rn_iload_n (pc := 31) 1 dk_Md_barsOfLetter_31 rfl rfl ?_
          refine rn_iload (pc := 32) dk_Md_barsOfLetter_32 rfl ?_
          refine cl_Md_230 (pc := 34) (As := [.int x1, .int x4]) (st := []) rfl (ct_Md_intAt X x1 x4 q4.2) (Nat.le_trans (Nat.le_of_ble_eq_true rfl) hF0) rfl rfl (Nat.le_of_ble_eq_true rfl) dk_Md_barsOfLetter_34 (fun q6 => ?_)
          refine rn_bipush (pc := 37) (7 : Int32) dk_Md_barsOfLetter_37 cn_b_7 ?_
          refine rn_icmp_le (pc := 39) 45 dk_Md_barsOfLetter_39 (by decide) (fun c7 => ?_) (fun c7 => ?_)
          · refine rn_iinc (pc := 45) (1 : Int32) dk_Md_barsOfLetter_45 cn_i_1 rfl rfl rfl ?_
            refine rn_goto (pc := 48) 10 dk_Md_barsOfLetter_48 (by decide) ?_
            exact rn_sub (by rfl) (ih x1 x2 x3 (x4 + (1 : Int32)) q6.2)
          · refine rn_bipush (pc := 42) (-6 : Int32) dk_Md_barsOfLetter_42 cn_b_m6 ?_
            refine rn_istore_n (pc := 44) 3 dk_Md_barsOfLetter_44 rfl rfl rfl ?_
            refine rn_iinc (pc := 45) (1 : Int32) dk_Md_barsOfLetter_45 cn_i_1 rfl rfl rfl ?_
            refine rn_goto (pc := 48) 10 dk_Md_barsOfLetter_48 (by decide) ?_
            exact rn_sub (by rfl) (ih x1 x2 (-6 : Int32) (x4 + (1 : Int32)) q6.2)
def Md_barsOfLetter (p1 : Int32) (p2 : Int32) (σ : nm_St) : Option (Int32 × nm_St) :=
  ((Md_barsOf p1 p2 σ).bind fun q1 =>
  Md_barsOfLetter_l10 (fun (e9 : Int32) (s8 : nm_St) =>
    some (e9, s8)) 400 p1 p2 q1.1 (0 : Int32) q1.2)
set_option maxRecDepth 100000 in
set_option maxHeartbeats 4000000 in
theorem ct_Md_barsOfLetter (X : nm_X) (p1 : Int32) (p2 : Int32) (σ : nm_St) : Ct X mi_Md_barsOfLetter 3 nm_wI [.ref 70, .int p1, .int p2] σ (Md_barsOfLetter p1 p2 σ) := by
  refine Ct.of (by decide +kernel) rfl (fun F hF0 => ?_)
  unfold Md_barsOfLetter
  refine rn_aload_n (pc := 0) 0 dk_Md_barsOfLetter_0 rfl rfl rfl ?_
  refine rn_iload_n (pc := 1) 1 dk_Md_barsOfLetter_1 rfl rfl ?_
  refine rn_iload_n (pc := 2) 2 dk_Md_barsOfLetter_2 rfl rfl ?_
  refine cl_Md_227 (pc := 3) (As := [.int p1, .int p2]) (st := []) rfl (ct_Md_barsOf X p1 p2 σ) (Nat.le_trans (Nat.le_of_ble_eq_true rfl) hF0) rfl rfl (Nat.le_of_ble_eq_true rfl) dk_Md_barsOfLetter_3 (fun q1 => ?_)
  refine rn_istore_n (pc := 6) 3 dk_Md_barsOfLetter_6 rfl rfl rfl ?_
  refine rn_iconst (pc := 7) (0 : Int32) dk_Md_barsOfLetter_7 cn_i_0 ?_
  refine rn_istore (pc := 8) dk_Md_barsOfLetter_8 rfl rfl ?_
  refine rn_sub (by rfl) (r_Md_barsOfLetter_l10 X F hF0 _ (fun e9 s8 => ?_) 400 p1 p2 q1.1 (0 : Int32) q1.2)
  refine rn_iload_n (pc := 51) 3 dk_Md_barsOfLetter_51 rfl rfl ?_
  exact rn_iret rfl dk_Md_barsOfLetter_52
theorem dk_Md_told_0 : decode mi_Md_told.2.1 0 = .ok (.iconst 0, 1) := by decide +kernel
theorem dk_Md_told_1 : decode mi_Md_told.2.1 1 = .ok (.istore 4, 2) := by decide +kernel
theorem dk_Md_told_3 : decode mi_Md_told.2.1 3 = .ok (.iconst 0, 1) := by decide +kernel
theorem dk_Md_told_4 : decode mi_Md_told.2.1 4 = .ok (.istore 5, 2) := by decide +kernel
theorem dk_Md_told_6 : decode mi_Md_told.2.1 6 = .ok (.iload 5, 2) := by decide +kernel
theorem dk_Md_told_8 : decode mi_Md_told.2.1 8 = .ok (.iload_n 2, 1) := by decide +kernel
theorem dk_Md_told_9 : decode mi_Md_told.2.1 9 = .ok (.if_icmp .ge 41, 3) := by decide +kernel
theorem dk_Md_told_12 : decode mi_Md_told.2.1 12 = .ok (.aload_n 0, 1) := by decide +kernel
theorem dk_Md_told_13 : decode mi_Md_told.2.1 13 = .ok (.iload_n 1, 1) := by decide +kernel
theorem dk_Md_told_14 : decode mi_Md_told.2.1 14 = .ok (.iload 5, 2) := by decide +kernel
theorem dk_Md_told_16 : decode mi_Md_told.2.1 16 = .ok (.invokevirtual 230, 3) := by decide +kernel
theorem dk_Md_told_19 : decode mi_Md_told.2.1 19 = .ok (.iload_n 3, 1) := by decide +kernel
theorem dk_Md_told_20 : decode mi_Md_told.2.1 20 = .ok (.iadd, 1) := by decide +kernel
theorem dk_Md_told_21 : decode mi_Md_told.2.1 21 = .ok (.bipush 8, 2) := by decide +kernel
theorem dk_Md_told_23 : decode mi_Md_told.2.1 23 = .ok (.irem, 1) := by decide +kernel
theorem dk_Md_told_24 : decode mi_Md_told.2.1 24 = .ok (.istore 6, 2) := by decide +kernel
theorem dk_Md_told_26 : decode mi_Md_told.2.1 26 = .ok (.iload 6, 2) := by decide +kernel
theorem dk_Md_told_28 : decode mi_Md_told.2.1 28 = .ok (.aload_n 0, 1) := by decide +kernel
theorem dk_Md_told_29 : decode mi_Md_told.2.1 29 = .ok (.getfield 7, 3) := by decide +kernel
theorem dk_Md_told_32 : decode mi_Md_told.2.1 32 = .ok (.if_icmp .ge 12, 3) := by decide +kernel
theorem dk_Md_told_35 : decode mi_Md_told.2.1 35 = .ok (.iload 4, 2) := by decide +kernel
theorem dk_Md_told_37 : decode mi_Md_told.2.1 37 = .ok (.iconst 1, 1) := by decide +kernel
theorem dk_Md_told_38 : decode mi_Md_told.2.1 38 = .ok (.iload 6, 2) := by decide +kernel
theorem dk_Md_told_40 : decode mi_Md_told.2.1 40 = .ok (.ishl, 1) := by decide +kernel
theorem dk_Md_told_41 : decode mi_Md_told.2.1 41 = .ok (.ior, 1) := by decide +kernel
theorem dk_Md_told_42 : decode mi_Md_told.2.1 42 = .ok (.istore 4, 2) := by decide +kernel
theorem dk_Md_told_44 : decode mi_Md_told.2.1 44 = .ok (.iinc 5 1, 3) := by decide +kernel
theorem dk_Md_told_47 : decode mi_Md_told.2.1 47 = .ok (.goto (-41), 3) := by decide +kernel
theorem dk_Md_told_50 : decode mi_Md_told.2.1 50 = .ok (.iload 4, 2) := by decide +kernel
theorem dk_Md_told_52 : decode mi_Md_told.2.1 52 = .ok (.ireturn, 1) := by decide +kernel
def Md_told_l6 (k_50 : Int32 → nm_St → Option (Int32 × nm_St)) : Nat → Int32 → Int32 → Int32 → Int32 → Int32 → nm_St → Option (Int32 × nm_St)
  | 0, _, _, _, _, _, _ => none
  | n + 1, x1, x2, x3, x4, x5, σ =>
    (if x2 ≤ x5 then
      k_50 x4 σ
    else
      ((Md_intAt x1 x5 σ).bind fun q2 =>
      (nm_g (!decide ((8 : Int32) = 0)) (
      (nm_let (((q2.1 + x3) - (q2.1 + x3) / (8 : Int32) * (8 : Int32))) fun v3 =>
      (if (q2.2.1 70 1) ≤ v3 then
        (Md_told_l6 k_50 n) x1 x2 x3 x4 (x5 + (1 : Int32)) q2.2
      else
        (nm_let ((x4 ||| ((1 : Int32) <<< (v3 &&& 31)))) fun v5 =>
        (Md_told_l6 k_50 n) x1 x2 x3 v5 (x5 + (1 : Int32)) q2.2)))))))
set_option maxRecDepth 100000 in
set_option maxHeartbeats 4000000 in
theorem r_Md_told_l6 (X : nm_X) (F : nm_F) (hF0 : 1 ≤ nm_d F) (k_50 : Int32 → nm_St → Option (Int32 × nm_St)) (hk_50 : ∀ (x4 : Int32) (σ : nm_St), Rn X mi_Md_told F (nm_Qf X F nm_wI) [(4, .int x4)] [] 50 σ (k_50 x4 σ)) : ∀ (n : Nat) (x1 : Int32) (x2 : Int32) (x3 : Int32) (x4 : Int32) (x5 : Int32) (σ : nm_St), Rn X mi_Md_told F (nm_Qf X F nm_wI) [(0, .ref 70), (1, .int x1), (2, .int x2), (3, .int x3), (4, .int x4), (5, .int x5)] [] 6 σ (Md_told_l6 k_50 n x1 x2 x3 x4 x5 σ) := by
  intro n
  induction n with
  | zero =>
    intro x1 x2 x3 x4 x5 σ
    exact rn_none
  | succ n ih =>
    intro x1 x2 x3 x4 x5 σ
    unfold Md_told_l6
    refine rn_iload (pc := 6) dk_Md_told_6 rfl ?_
    refine rn_iload_n (pc := 8) 2 dk_Md_told_8 rfl rfl ?_
    refine rn_icmp_ge (pc := 9) 50 dk_Md_told_9 (by decide) (fun c1 => ?_) (fun c1 => ?_)
    · exact rn_sub (by rfl) (hk_50 x4 σ)
    · refine rn_aload_n (pc := 12) 0 dk_Md_told_12 rfl rfl rfl ?_
      refine rn_iload_n (pc := 13) 1 dk_Md_told_13 rfl rfl ?_
      refine rn_iload (pc := 14) dk_Md_told_14 rfl ?_
      refine cl_Md_230 (pc := 16) (As := [.int x1, .int x5]) (st := []) rfl (ct_Md_intAt X x1 x5 σ) (Nat.le_trans (Nat.le_of_ble_eq_true rfl) hF0) rfl rfl (Nat.le_of_ble_eq_true rfl) dk_Md_told_16 (fun q2 => ?_)
      refine rn_iload_n (pc := 19) 3 dk_Md_told_19 rfl rfl ?_
      refine rn_iadd (pc := 20) dk_Md_told_20 ?_
      refine rn_bipush (pc := 21) (8 : Int32) dk_Md_told_21 cn_b_8 ?_
      refine rn_irem (pc := 23) dk_Md_told_23 ?_
      refine rn_leti (fun v3 => ?_)
      refine rn_istore (pc := 24) dk_Md_told_24 rfl rfl ?_
      refine rn_iload (pc := 26) dk_Md_told_26 rfl ?_
      refine rn_aload_n (pc := 28) 0 dk_Md_told_28 rfl rfl rfl ?_
      refine gf_Md_7 (pc := 29) rfl dk_Md_told_29 ?_
      refine rn_icmp_ge (pc := 32) 44 dk_Md_told_32 (by decide) (fun c4 => ?_) (fun c4 => ?_)
      · refine rn_iinc (pc := 44) (1 : Int32) dk_Md_told_44 cn_i_1 rfl rfl rfl ?_
        refine rn_goto (pc := 47) 6 dk_Md_told_47 (by decide) ?_
        exact rn_sub (by rfl) (ih x1 x2 x3 x4 (x5 + (1 : Int32)) q2.2)
      · refine rn_iload (pc := 35) dk_Md_told_35 rfl ?_
        refine rn_iconst (pc := 37) (1 : Int32) dk_Md_told_37 cn_i_1 ?_
        refine rn_iload (pc := 38) dk_Md_told_38 rfl ?_
        refine rn_ishl (pc := 40) dk_Md_told_40 ?_
        refine rn_ior (pc := 41) dk_Md_told_41 ?_
        refine rn_leti (fun v5 => ?_)
        refine rn_istore (pc := 42) dk_Md_told_42 rfl rfl ?_
        refine rn_iinc (pc := 44) (1 : Int32) dk_Md_told_44 cn_i_1 rfl rfl rfl ?_
        refine rn_goto (pc := 47) 6 dk_Md_told_47 (by decide) ?_
        exact rn_sub (by rfl) (ih x1 x2 x3 v5 (x5 + (1 : Int32)) q2.2)
def Md_told (p1 : Int32) (p2 : Int32) (p3 : Int32) (σ : nm_St) : Option (Int32 × nm_St) :=
  Md_told_l6 (fun (e7 : Int32) (s6 : nm_St) =>
    some (e7, s6)) 400 p1 p2 p3 (0 : Int32) (0 : Int32) σ
set_option maxRecDepth 100000 in
set_option maxHeartbeats 4000000 in
theorem ct_Md_told (X : nm_X) (p1 : Int32) (p2 : Int32) (p3 : Int32) (σ : nm_St) : Ct X mi_Md_told 1 nm_wI [.ref 70, .int p1, .int p2, .int p3] σ (Md_told p1 p2 p3 σ) := by
  refine Ct.of (by decide +kernel) rfl (fun F hF0 => ?_)
  unfold Md_told
  refine rn_iconst (pc := 0) (0 : Int32) dk_Md_told_0 cn_i_0 ?_
  refine rn_istore (pc := 1) dk_Md_told_1 rfl rfl ?_
  refine rn_iconst (pc := 3) (0 : Int32) dk_Md_told_3 cn_i_0 ?_
  refine rn_istore (pc := 4) dk_Md_told_4 rfl rfl ?_
  refine rn_sub (by rfl) (r_Md_told_l6 X F hF0 _ (fun e7 s6 => ?_) 400 p1 p2 p3 (0 : Int32) (0 : Int32) σ)
  refine rn_iload (pc := 50) dk_Md_told_50 rfl ?_
  exact rn_iret rfl dk_Md_told_52
theorem dk_Md_letter_0 : decode mi_Md_letter.2.1 0 = .ok (.aload_n 0, 1) := by decide +kernel
theorem dk_Md_letter_1 : decode mi_Md_letter.2.1 1 = .ok (.iload_n 1, 1) := by decide +kernel
theorem dk_Md_letter_2 : decode mi_Md_letter.2.1 2 = .ok (.iload_n 2, 1) := by decide +kernel
theorem dk_Md_letter_3 : decode mi_Md_letter.2.1 3 = .ok (.invokevirtual 233, 3) := by decide +kernel
theorem dk_Md_letter_6 : decode mi_Md_letter.2.1 6 = .ok (.istore 4, 2) := by decide +kernel
theorem dk_Md_letter_8 : decode mi_Md_letter.2.1 8 = .ok (.iload 4, 2) := by decide +kernel
theorem dk_Md_letter_10 : decode mi_Md_letter.2.1 10 = .ok (.ifCond .ne 17, 3) := by decide +kernel
theorem dk_Md_letter_13 : decode mi_Md_letter.2.1 13 = .ok (.iload_n 3, 1) := by decide +kernel
theorem dk_Md_letter_14 : decode mi_Md_letter.2.1 14 = .ok (.ifCond .lt 9, 3) := by decide +kernel
theorem dk_Md_letter_17 : decode mi_Md_letter.2.1 17 = .ok (.iload_n 3, 1) := by decide +kernel
theorem dk_Md_letter_18 : decode mi_Md_letter.2.1 18 = .ok (.bipush 7, 2) := by decide +kernel
theorem dk_Md_letter_20 : decode mi_Md_letter.2.1 20 = .ok (.if_icmp .le 7, 3) := by decide +kernel
theorem dk_Md_letter_23 : decode mi_Md_letter.2.1 23 = .ok (.bipush (-6), 2) := by decide +kernel
theorem dk_Md_letter_25 : decode mi_Md_letter.2.1 25 = .ok (.istore 4, 2) := by decide +kernel
theorem dk_Md_letter_27 : decode mi_Md_letter.2.1 27 = .ok (.iload 4, 2) := by decide +kernel
theorem dk_Md_letter_29 : decode mi_Md_letter.2.1 29 = .ok (.ifCond .eq 12, 3) := by decide +kernel
theorem dk_Md_letter_32 : decode mi_Md_letter.2.1 32 = .ok (.aload_n 0, 1) := by decide +kernel
theorem dk_Md_letter_33 : decode mi_Md_letter.2.1 33 = .ok (.iload 4, 2) := by decide +kernel
theorem dk_Md_letter_35 : decode mi_Md_letter.2.1 35 = .ok (.invokevirtual 97, 3) := by decide +kernel
theorem dk_Md_letter_38 : decode mi_Md_letter.2.1 38 = .ok (.goto 10, 3) := by decide +kernel
theorem dk_Md_letter_41 : decode mi_Md_letter.2.1 41 = .ok (.aload_n 0, 1) := by decide +kernel
theorem dk_Md_letter_42 : decode mi_Md_letter.2.1 42 = .ok (.iload_n 1, 1) := by decide +kernel
theorem dk_Md_letter_43 : decode mi_Md_letter.2.1 43 = .ok (.iload_n 2, 1) := by decide +kernel
theorem dk_Md_letter_44 : decode mi_Md_letter.2.1 44 = .ok (.iload_n 3, 1) := by decide +kernel
theorem dk_Md_letter_45 : decode mi_Md_letter.2.1 45 = .ok (.invokevirtual 236, 3) := by decide +kernel
theorem dk_Md_letter_48 : decode mi_Md_letter.2.1 48 = .ok (.ireturn, 1) := by decide +kernel
def Md_letter_j27 (x1 : Int32) (x2 : Int32) (x3 : Int32) (x4 : Int32) (σ : nm_St) : Option (Int32 × nm_St) :=
  (if x4 = 0 then
    ((Md_told x1 x2 x3 σ).bind fun q4 =>
    some (q4.1, q4.2))
  else
    ((Md_no x4 σ).bind fun q5 =>
    some (q5.1, q5.2)))
set_option maxRecDepth 100000 in
set_option maxHeartbeats 4000000 in
theorem r_Md_letter_j27 (X : nm_X) (F : nm_F) (hF0 : 4 ≤ nm_d F) (x1 : Int32) (x2 : Int32) (x3 : Int32) (x4 : Int32) (σ : nm_St) : Rn X mi_Md_letter F (nm_Qf X F nm_wI) [(0, .ref 70), (1, .int x1), (2, .int x2), (3, .int x3), (4, .int x4)] [] 27 σ (Md_letter_j27 x1 x2 x3 x4 σ) := by
  unfold Md_letter_j27
  refine rn_iload (pc := 27) dk_Md_letter_27 rfl ?_
  refine rn_if_eq (pc := 29) 41 dk_Md_letter_29 (by decide) (fun c3 => ?_) (fun c3 => ?_)
  · refine rn_aload_n (pc := 41) 0 dk_Md_letter_41 rfl rfl rfl ?_
    refine rn_iload_n (pc := 42) 1 dk_Md_letter_42 rfl rfl ?_
    refine rn_iload_n (pc := 43) 2 dk_Md_letter_43 rfl rfl ?_
    refine rn_iload_n (pc := 44) 3 dk_Md_letter_44 rfl rfl ?_
    refine cl_Md_236 (pc := 45) (As := [.int x1, .int x2, .int x3]) (st := []) rfl (ct_Md_told X x1 x2 x3 σ) (Nat.le_trans (Nat.le_of_ble_eq_true rfl) hF0) rfl rfl (Nat.le_of_ble_eq_true rfl) dk_Md_letter_45 (fun q4 => ?_)
    exact rn_iret rfl dk_Md_letter_48
  · refine rn_aload_n (pc := 32) 0 dk_Md_letter_32 rfl rfl rfl ?_
    refine rn_iload (pc := 33) dk_Md_letter_33 rfl ?_
    refine cl_Md_97 (pc := 35) (As := [.int x4]) (st := []) rfl (ct_Md_no X x4 σ) (Nat.le_trans (Nat.le_of_ble_eq_true rfl) hF0) rfl rfl (Nat.le_of_ble_eq_true rfl) dk_Md_letter_35 (fun q5 => ?_)
    refine rn_goto (pc := 38) 48 dk_Md_letter_38 (by decide) ?_
    exact rn_iret rfl dk_Md_letter_48
def Md_letter_j23 (x1 : Int32) (x2 : Int32) (x3 : Int32) (σ : nm_St) : Option (Int32 × nm_St) :=
  Md_letter_j27 x1 x2 x3 (-6 : Int32) σ
set_option maxRecDepth 100000 in
set_option maxHeartbeats 4000000 in
theorem r_Md_letter_j23 (X : nm_X) (F : nm_F) (hF0 : 4 ≤ nm_d F) (x1 : Int32) (x2 : Int32) (x3 : Int32) (σ : nm_St) : Rn X mi_Md_letter F (nm_Qf X F nm_wI) [(0, .ref 70), (1, .int x1), (2, .int x2), (3, .int x3)] [] 23 σ (Md_letter_j23 x1 x2 x3 σ) := by
  unfold Md_letter_j23
  refine rn_bipush (pc := 23) (-6 : Int32) dk_Md_letter_23 cn_b_m6 ?_
  refine rn_istore (pc := 25) dk_Md_letter_25 rfl rfl ?_
  exact rn_sub (by rfl) (r_Md_letter_j27 X F hF0 x1 x2 x3 (-6 : Int32) σ)
def Md_letter (p1 : Int32) (p2 : Int32) (p3 : Int32) (σ : nm_St) : Option (Int32 × nm_St) :=
  ((Md_barsOfLetter p1 p2 σ).bind fun q1 =>
  (if q1.1 = 0 then
    (if p3 < 0 then
      Md_letter_j23 p1 p2 p3 q1.2
    else
      (if p3 ≤ (7 : Int32) then
        Md_letter_j27 p1 p2 p3 q1.1 q1.2
      else
        Md_letter_j23 p1 p2 p3 q1.2))
  else
    Md_letter_j27 p1 p2 p3 q1.1 q1.2))
set_option maxRecDepth 100000 in
set_option maxHeartbeats 4000000 in
theorem ct_Md_letter (X : nm_X) (p1 : Int32) (p2 : Int32) (p3 : Int32) (σ : nm_St) : Ct X mi_Md_letter 4 nm_wI [.ref 70, .int p1, .int p2, .int p3] σ (Md_letter p1 p2 p3 σ) := by
  refine Ct.of (by decide +kernel) rfl (fun F hF0 => ?_)
  unfold Md_letter
  refine rn_aload_n (pc := 0) 0 dk_Md_letter_0 rfl rfl rfl ?_
  refine rn_iload_n (pc := 1) 1 dk_Md_letter_1 rfl rfl ?_
  refine rn_iload_n (pc := 2) 2 dk_Md_letter_2 rfl rfl ?_
  refine cl_Md_233 (pc := 3) (As := [.int p1, .int p2]) (st := []) rfl (ct_Md_barsOfLetter X p1 p2 σ) (Nat.le_trans (Nat.le_of_ble_eq_true rfl) hF0) rfl rfl (Nat.le_of_ble_eq_true rfl) dk_Md_letter_3 (fun q1 => ?_)
  refine rn_istore (pc := 6) dk_Md_letter_6 rfl rfl ?_
  refine rn_iload (pc := 8) dk_Md_letter_8 rfl ?_
  refine rn_if_ne (pc := 10) 27 dk_Md_letter_10 (by decide) (fun c2 => ?_) (fun c2 => ?_)
  · exact rn_sub (by rfl) (r_Md_letter_j27 X F hF0 p1 p2 p3 q1.1 q1.2)
  · refine rn_iload_n (pc := 13) 3 dk_Md_letter_13 rfl rfl ?_
    refine rn_if_lt (pc := 14) 23 dk_Md_letter_14 (by decide) (fun c6 => ?_) (fun c6 => ?_)
    · exact rn_sub (by rfl) (r_Md_letter_j23 X F hF0 p1 p2 p3 q1.2)
    · refine rn_iload_n (pc := 17) 3 dk_Md_letter_17 rfl rfl ?_
      refine rn_bipush (pc := 18) (7 : Int32) dk_Md_letter_18 cn_b_7 ?_
      refine rn_icmp_le (pc := 20) 27 dk_Md_letter_20 (by decide) (fun c7 => ?_) (fun c7 => ?_)
      · exact rn_sub (by rfl) (r_Md_letter_j27 X F hF0 p1 p2 p3 q1.1 q1.2)
      · exact rn_sub (by rfl) (r_Md_letter_j23 X F hF0 p1 p2 p3 q1.2)
