theorem dk_Md_isShelf_0 : decode mi_Md_isShelf.2.1 0 = .ok (.iload_n 1, 1) := by decide +kernel
theorem dk_Md_isShelf_1 : decode mi_Md_isShelf.2.1 1 = .ok (.ifCond .lt 13, 3) := by decide +kernel
theorem dk_Md_isShelf_4 : decode mi_Md_isShelf.2.1 4 = .ok (.iload_n 1, 1) := by decide +kernel
theorem dk_Md_isShelf_5 : decode mi_Md_isShelf.2.1 5 = .ok (.bipush 8, 2) := by decide +kernel
theorem dk_Md_isShelf_7 : decode mi_Md_isShelf.2.1 7 = .ok (.if_icmp .ge 7, 3) := by decide +kernel
theorem dk_Md_isShelf_10 : decode mi_Md_isShelf.2.1 10 = .ok (.iconst 1, 1) := by decide +kernel
theorem dk_Md_isShelf_11 : decode mi_Md_isShelf.2.1 11 = .ok (.goto 4, 3) := by decide +kernel
theorem dk_Md_isShelf_14 : decode mi_Md_isShelf.2.1 14 = .ok (.iconst 0, 1) := by decide +kernel
theorem dk_Md_isShelf_15 : decode mi_Md_isShelf.2.1 15 = .ok (.ireturn, 1) := by decide +kernel
def Md_isShelf (p1 : Int32) (σ : nm_St) : Option (Int32 × nm_St) :=
  (if p1 < 0 then
    some ((0 : Int32), σ)
  else
    (if (8 : Int32) ≤ p1 then
      some ((0 : Int32), σ)
    else
      some ((1 : Int32), σ)))
set_option maxRecDepth 100000 in
set_option maxHeartbeats 4000000 in
theorem ct_Md_isShelf (X : nm_X) (p1 : Int32) (σ : nm_St) : Ct X mi_Md_isShelf 0 nm_wI [.ref 70, .int p1] σ (Md_isShelf p1 σ) := by
  refine Ct.of (by decide +kernel) rfl (fun F hF0 => ?_)
  unfold Md_isShelf
  refine rn_iload_n (pc := 0) 1 dk_Md_isShelf_0 rfl rfl ?_
  refine rn_if_lt (pc := 1) 14 dk_Md_isShelf_1 (by decide) (fun c1 => ?_) (fun c1 => ?_)
  · refine rn_iconst (pc := 14) (0 : Int32) dk_Md_isShelf_14 cn_i_0 ?_
    exact rn_zret (ty := .boolean) rfl rfl dk_Md_isShelf_15
  · refine rn_iload_n (pc := 4) 1 dk_Md_isShelf_4 rfl rfl ?_
    refine rn_bipush (pc := 5) (8 : Int32) dk_Md_isShelf_5 cn_b_8 ?_
    refine rn_icmp_ge (pc := 7) 14 dk_Md_isShelf_7 (by decide) (fun c2 => ?_) (fun c2 => ?_)
    · refine rn_iconst (pc := 14) (0 : Int32) dk_Md_isShelf_14 cn_i_0 ?_
      exact rn_zret (ty := .boolean) rfl rfl dk_Md_isShelf_15
    · refine rn_iconst (pc := 10) (1 : Int32) dk_Md_isShelf_10 cn_i_1 ?_
      refine rn_goto (pc := 11) 15 dk_Md_isShelf_11 (by decide) ?_
      exact rn_zret (ty := .boolean) rfl rfl dk_Md_isShelf_15
theorem dk_Md_no_0 : decode mi_Md_no.2.1 0 = .ok (.aload_n 0, 1) := by decide +kernel
theorem dk_Md_no_1 : decode mi_Md_no.2.1 1 = .ok (.getfield 22, 3) := by decide +kernel
theorem dk_Md_no_4 : decode mi_Md_no.2.1 4 = .ok (.iload_n 1, 1) := by decide +kernel
theorem dk_Md_no_5 : decode mi_Md_no.2.1 5 = .ok (.ineg, 1) := by decide +kernel
theorem dk_Md_no_6 : decode mi_Md_no.2.1 6 = .ok (.dup2, 1) := by decide +kernel
theorem dk_Md_no_7 : decode mi_Md_no.2.1 7 = .ok (.iaload, 1) := by decide +kernel
theorem dk_Md_no_8 : decode mi_Md_no.2.1 8 = .ok (.iconst 1, 1) := by decide +kernel
theorem dk_Md_no_9 : decode mi_Md_no.2.1 9 = .ok (.iadd, 1) := by decide +kernel
theorem dk_Md_no_10 : decode mi_Md_no.2.1 10 = .ok (.iastore, 1) := by decide +kernel
theorem dk_Md_no_11 : decode mi_Md_no.2.1 11 = .ok (.iload_n 1, 1) := by decide +kernel
theorem dk_Md_no_12 : decode mi_Md_no.2.1 12 = .ok (.ireturn, 1) := by decide +kernel
def Md_no (p1 : Int32) (σ : nm_St) : Option (Int32 × nm_St) :=
  (nm_g (nm_in (-p1) 8) (
  (nm_g (nm_in (-p1) 8) (
  (nm_let (nm_pI σ 71 (-p1).toNatClampNeg ((σ.1 71 (-p1).toNatClampNeg) + (1 : Int32))) fun s3 =>
  some (p1, s3))))))
set_option maxRecDepth 100000 in
set_option maxHeartbeats 4000000 in
theorem ct_Md_no (X : nm_X) (p1 : Int32) (σ : nm_St) : Ct X mi_Md_no 0 nm_wI [.ref 70, .int p1] σ (Md_no p1 σ) := by
  refine Ct.of (by decide +kernel) rfl (fun F hF0 => ?_)
  unfold Md_no
  refine rn_aload_n (pc := 0) 0 dk_Md_no_0 rfl rfl rfl ?_
  refine gf_Md_22 (pc := 1) rfl dk_Md_no_1 ?_
  refine rn_iload_n (pc := 4) 1 dk_Md_no_4 rfl rfl ?_
  refine rn_ineg (pc := 5) dk_Md_no_5 ?_
  refine rn_dup2 (pc := 6) dk_Md_no_6 rfl rfl ?_
  refine rn_iaload (pc := 7) rfl dk_Md_no_7 (fun g1 => ?_)
  refine rn_iconst (pc := 8) (1 : Int32) dk_Md_no_8 cn_i_1 ?_
  refine rn_iadd (pc := 9) dk_Md_no_9 ?_
  refine rn_iastore (pc := 10) rfl dk_Md_no_10 (fun g2 => ?_)
  refine rn_lets (fun s3 => ?_)
  refine rn_iload_n (pc := 11) 1 dk_Md_no_11 rfl rfl ?_
  exact rn_iret rfl dk_Md_no_12
theorem dk_Md_row_0 : decode mi_Md_row.2.1 0 = .ok (.aload_n 0, 1) := by decide +kernel
theorem dk_Md_row_1 : decode mi_Md_row.2.1 1 = .ok (.iload_n 1, 1) := by decide +kernel
theorem dk_Md_row_2 : decode mi_Md_row.2.1 2 = .ok (.invokevirtual 93, 3) := by decide +kernel
theorem dk_Md_row_5 : decode mi_Md_row.2.1 5 = .ok (.ifCond .ne 9, 3) := by decide +kernel
theorem dk_Md_row_8 : decode mi_Md_row.2.1 8 = .ok (.aload_n 0, 1) := by decide +kernel
theorem dk_Md_row_9 : decode mi_Md_row.2.1 9 = .ok (.iconst (-1), 1) := by decide +kernel
theorem dk_Md_row_10 : decode mi_Md_row.2.1 10 = .ok (.invokevirtual 97, 3) := by decide +kernel
theorem dk_Md_row_13 : decode mi_Md_row.2.1 13 = .ok (.ireturn, 1) := by decide +kernel
theorem dk_Md_row_14 : decode mi_Md_row.2.1 14 = .ok (.iload_n 3, 1) := by decide +kernel
theorem dk_Md_row_15 : decode mi_Md_row.2.1 15 = .ok (.ifCond .ge 10, 3) := by decide +kernel
theorem dk_Md_row_18 : decode mi_Md_row.2.1 18 = .ok (.aload_n 0, 1) := by decide +kernel
theorem dk_Md_row_19 : decode mi_Md_row.2.1 19 = .ok (.bipush (-4), 2) := by decide +kernel
theorem dk_Md_row_21 : decode mi_Md_row.2.1 21 = .ok (.invokevirtual 97, 3) := by decide +kernel
theorem dk_Md_row_24 : decode mi_Md_row.2.1 24 = .ok (.ireturn, 1) := by decide +kernel
theorem dk_Md_row_25 : decode mi_Md_row.2.1 25 = .ok (.iload_n 2, 1) := by decide +kernel
theorem dk_Md_row_26 : decode mi_Md_row.2.1 26 = .ok (.ifCond .lt 8, 3) := by decide +kernel
theorem dk_Md_row_29 : decode mi_Md_row.2.1 29 = .ok (.iload_n 2, 1) := by decide +kernel
theorem dk_Md_row_30 : decode mi_Md_row.2.1 30 = .ok (.iconst 3, 1) := by decide +kernel
theorem dk_Md_row_31 : decode mi_Md_row.2.1 31 = .ok (.if_icmp .le 10, 3) := by decide +kernel
theorem dk_Md_row_34 : decode mi_Md_row.2.1 34 = .ok (.aload_n 0, 1) := by decide +kernel
theorem dk_Md_row_35 : decode mi_Md_row.2.1 35 = .ok (.bipush (-6), 2) := by decide +kernel
theorem dk_Md_row_37 : decode mi_Md_row.2.1 37 = .ok (.invokevirtual 97, 3) := by decide +kernel
theorem dk_Md_row_40 : decode mi_Md_row.2.1 40 = .ok (.ireturn, 1) := by decide +kernel
theorem dk_Md_row_41 : decode mi_Md_row.2.1 41 = .ok (.iload_n 3, 1) := by decide +kernel
theorem dk_Md_row_42 : decode mi_Md_row.2.1 42 = .ok (.sipush 160, 3) := by decide +kernel
theorem dk_Md_row_45 : decode mi_Md_row.2.1 45 = .ok (.if_icmp .le 10, 3) := by decide +kernel
theorem dk_Md_row_48 : decode mi_Md_row.2.1 48 = .ok (.aload_n 0, 1) := by decide +kernel
theorem dk_Md_row_49 : decode mi_Md_row.2.1 49 = .ok (.bipush (-7), 2) := by decide +kernel
theorem dk_Md_row_51 : decode mi_Md_row.2.1 51 = .ok (.invokevirtual 97, 3) := by decide +kernel
theorem dk_Md_row_54 : decode mi_Md_row.2.1 54 = .ok (.ireturn, 1) := by decide +kernel
theorem dk_Md_row_55 : decode mi_Md_row.2.1 55 = .ok (.aload_n 0, 1) := by decide +kernel
theorem dk_Md_row_56 : decode mi_Md_row.2.1 56 = .ok (.getfield 44, 3) := by decide +kernel
theorem dk_Md_row_59 : decode mi_Md_row.2.1 59 = .ok (.iload_n 1, 1) := by decide +kernel
theorem dk_Md_row_60 : decode mi_Md_row.2.1 60 = .ok (.iconst 1, 1) := by decide +kernel
theorem dk_Md_row_61 : decode mi_Md_row.2.1 61 = .ok (.iastore, 1) := by decide +kernel
theorem dk_Md_row_62 : decode mi_Md_row.2.1 62 = .ok (.aload_n 0, 1) := by decide +kernel
theorem dk_Md_row_63 : decode mi_Md_row.2.1 63 = .ok (.getfield 47, 3) := by decide +kernel
theorem dk_Md_row_66 : decode mi_Md_row.2.1 66 = .ok (.iload_n 1, 1) := by decide +kernel
theorem dk_Md_row_67 : decode mi_Md_row.2.1 67 = .ok (.iload_n 2, 1) := by decide +kernel
theorem dk_Md_row_68 : decode mi_Md_row.2.1 68 = .ok (.iastore, 1) := by decide +kernel
theorem dk_Md_row_69 : decode mi_Md_row.2.1 69 = .ok (.aload_n 0, 1) := by decide +kernel
theorem dk_Md_row_70 : decode mi_Md_row.2.1 70 = .ok (.getfield 50, 3) := by decide +kernel
theorem dk_Md_row_73 : decode mi_Md_row.2.1 73 = .ok (.iload_n 1, 1) := by decide +kernel
theorem dk_Md_row_74 : decode mi_Md_row.2.1 74 = .ok (.iload_n 3, 1) := by decide +kernel
theorem dk_Md_row_75 : decode mi_Md_row.2.1 75 = .ok (.iastore, 1) := by decide +kernel
theorem dk_Md_row_76 : decode mi_Md_row.2.1 76 = .ok (.iconst 0, 1) := by decide +kernel
theorem dk_Md_row_77 : decode mi_Md_row.2.1 77 = .ok (.istore 4, 2) := by decide +kernel
theorem dk_Md_row_79 : decode mi_Md_row.2.1 79 = .ok (.iload 4, 2) := by decide +kernel
theorem dk_Md_row_81 : decode mi_Md_row.2.1 81 = .ok (.sipush 160, 3) := by decide +kernel
theorem dk_Md_row_84 : decode mi_Md_row.2.1 84 = .ok (.if_icmp .ge 23, 3) := by decide +kernel
theorem dk_Md_row_87 : decode mi_Md_row.2.1 87 = .ok (.aload_n 0, 1) := by decide +kernel
theorem dk_Md_row_88 : decode mi_Md_row.2.1 88 = .ok (.getfield 56, 3) := by decide +kernel
theorem dk_Md_row_91 : decode mi_Md_row.2.1 91 = .ok (.sipush 160, 3) := by decide +kernel
theorem dk_Md_row_94 : decode mi_Md_row.2.1 94 = .ok (.iload_n 1, 1) := by decide +kernel
theorem dk_Md_row_95 : decode mi_Md_row.2.1 95 = .ok (.imul, 1) := by decide +kernel
theorem dk_Md_row_96 : decode mi_Md_row.2.1 96 = .ok (.iload 4, 2) := by decide +kernel
theorem dk_Md_row_98 : decode mi_Md_row.2.1 98 = .ok (.iadd, 1) := by decide +kernel
theorem dk_Md_row_99 : decode mi_Md_row.2.1 99 = .ok (.lconst 0, 1) := by decide +kernel
theorem dk_Md_row_100 : decode mi_Md_row.2.1 100 = .ok (.lastore, 1) := by decide +kernel
theorem dk_Md_row_101 : decode mi_Md_row.2.1 101 = .ok (.iinc 4 1, 3) := by decide +kernel
theorem dk_Md_row_104 : decode mi_Md_row.2.1 104 = .ok (.goto (-25), 3) := by decide +kernel
theorem dk_Md_row_107 : decode mi_Md_row.2.1 107 = .ok (.iconst 1, 1) := by decide +kernel
theorem dk_Md_row_108 : decode mi_Md_row.2.1 108 = .ok (.ireturn, 1) := by decide +kernel
def Md_row_l79 (k_107 : nm_St → Option (Int32 × nm_St)) : Nat → Int32 → Int32 → nm_St → Option (Int32 × nm_St)
  | 0, _, _, _ => none
  | n + 1, x1, x4, σ =>
    (if (160 : Int32) ≤ x4 then
      k_107 σ
    else
      (nm_g (nm_in (((160 : Int32) * x1) + x4) 1280) (
      (nm_let (nm_pJ σ 82 (((160 : Int32) * x1) + x4).toNatClampNeg (0 : Int64)) fun s16 =>
      (Md_row_l79 k_107 n) x1 (x4 + (1 : Int32)) s16))))
set_option maxRecDepth 100000 in
set_option maxHeartbeats 4000000 in
theorem r_Md_row_l79 (X : nm_X) (F : nm_F) (hF0 : 1 ≤ nm_d F) (k_107 : nm_St → Option (Int32 × nm_St)) (hk_107 : ∀ (σ : nm_St), Rn X mi_Md_row F (nm_Qf X F nm_wI) [] [] 107 σ (k_107 σ)) : ∀ (n : Nat) (x1 : Int32) (x4 : Int32) (σ : nm_St), Rn X mi_Md_row F (nm_Qf X F nm_wI) [(0, .ref 70), (1, .int x1), (4, .int x4)] [] 79 σ (Md_row_l79 k_107 n x1 x4 σ) := by
  intro n
  induction n with
  | zero =>
    intro x1 x4 σ
    exact rn_none
  | succ n ih =>
    intro x1 x4 σ
    unfold Md_row_l79
    refine rn_iload (pc := 79) dk_Md_row_79 rfl ?_
    refine rn_sipush (pc := 81) (160 : Int32) dk_Md_row_81 cn_s_160 ?_
    refine rn_icmp_ge (pc := 84) 107 dk_Md_row_84 (by decide) (fun c14 => ?_) (fun c14 => ?_)
    · exact rn_sub (by rfl) (hk_107 σ)
    · refine rn_aload_n (pc := 87) 0 dk_Md_row_87 rfl rfl rfl ?_
      refine gf_Md_56 (pc := 88) rfl dk_Md_row_88 ?_
      refine rn_sipush (pc := 91) (160 : Int32) dk_Md_row_91 cn_s_160 ?_
      refine rn_iload_n (pc := 94) 1 dk_Md_row_94 rfl rfl ?_
      refine rn_imul (pc := 95) dk_Md_row_95 ?_
      refine rn_iload (pc := 96) dk_Md_row_96 rfl ?_
      refine rn_iadd (pc := 98) dk_Md_row_98 ?_
      refine rn_lconst (pc := 99) (0 : Int64) dk_Md_row_99 rfl ?_
      refine rn_lastore (pc := 100) rfl dk_Md_row_100 (fun g15 => ?_)
      refine rn_lets (fun s16 => ?_)
      refine rn_iinc (pc := 101) (1 : Int32) dk_Md_row_101 cn_i_1 rfl rfl rfl ?_
      refine rn_goto (pc := 104) 79 dk_Md_row_104 (by decide) ?_
      exact rn_sub (by rfl) (ih x1 (x4 + (1 : Int32)) s16)
def Md_row (p1 : Int32) (p2 : Int32) (p3 : Int32) (σ : nm_St) : Option (Int32 × nm_St) :=
  ((Md_isShelf p1 σ).bind fun q1 =>
  (if q1.1 = 0 then
    ((Md_no (-1 : Int32) q1.2).bind fun q21 =>
    some (q21.1, q21.2))
  else
    (if 0 ≤ p3 then
      (if p2 < 0 then
        ((Md_no (-6 : Int32) q1.2).bind fun q5 =>
        some (q5.1, q5.2))
      else
        (if p2 ≤ (3 : Int32) then
          (if p3 ≤ (160 : Int32) then
            (nm_g (nm_in p1 8) (
            (nm_let (nm_pI q1.2 78 p1.toNatClampNeg (1 : Int32)) fun s9 =>
            (nm_g (nm_in p1 8) (
            (nm_let (nm_pI s9 79 p1.toNatClampNeg p2) fun s11 =>
            (nm_g (nm_in p1 8) (
            (nm_let (nm_pI s11 80 p1.toNatClampNeg p3) fun s13 =>
            Md_row_l79 (fun (s17 : nm_St) =>
              some ((1 : Int32), s17)) 400 p1 (0 : Int32) s13)))))))))
          else
            ((Md_no (-7 : Int32) q1.2).bind fun q18 =>
            some (q18.1, q18.2)))
        else
          ((Md_no (-6 : Int32) q1.2).bind fun q19 =>
          some (q19.1, q19.2))))
    else
      ((Md_no (-4 : Int32) q1.2).bind fun q20 =>
      some (q20.1, q20.2)))))
set_option maxRecDepth 100000 in
set_option maxHeartbeats 4000000 in
theorem ct_Md_row (X : nm_X) (p1 : Int32) (p2 : Int32) (p3 : Int32) (σ : nm_St) : Ct X mi_Md_row 1 nm_wI [.ref 70, .int p1, .int p2, .int p3] σ (Md_row p1 p2 p3 σ) := by
  refine Ct.of (by decide +kernel) rfl (fun F hF0 => ?_)
  unfold Md_row
  refine rn_aload_n (pc := 0) 0 dk_Md_row_0 rfl rfl rfl ?_
  refine rn_iload_n (pc := 1) 1 dk_Md_row_1 rfl rfl ?_
  refine cl_Md_93 (pc := 2) (As := [.int p1]) (st := []) rfl (ct_Md_isShelf X p1 σ) (Nat.le_trans (Nat.le_of_ble_eq_true rfl) hF0) rfl rfl (Nat.le_of_ble_eq_true rfl) dk_Md_row_2 (fun q1 => ?_)
  refine rn_if_ne (pc := 5) 14 dk_Md_row_5 (by decide) (fun c2 => ?_) (fun c2 => ?_)
  · refine rn_iload_n (pc := 14) 3 dk_Md_row_14 rfl rfl ?_
    refine rn_if_ge (pc := 15) 25 dk_Md_row_15 (by decide) (fun c3 => ?_) (fun c3 => ?_)
    · refine rn_iload_n (pc := 25) 2 dk_Md_row_25 rfl rfl ?_
      refine rn_if_lt (pc := 26) 34 dk_Md_row_26 (by decide) (fun c4 => ?_) (fun c4 => ?_)
      · refine rn_aload_n (pc := 34) 0 dk_Md_row_34 rfl rfl rfl ?_
        refine rn_bipush (pc := 35) (-6 : Int32) dk_Md_row_35 cn_b_m6 ?_
        refine cl_Md_97 (pc := 37) (As := [.int (-6 : Int32)]) (st := []) rfl (ct_Md_no X (-6 : Int32) q1.2) (Nat.le_trans (Nat.le_of_ble_eq_true rfl) hF0) rfl rfl (Nat.le_of_ble_eq_true rfl) dk_Md_row_37 (fun q5 => ?_)
        exact rn_iret rfl dk_Md_row_40
      · refine rn_iload_n (pc := 29) 2 dk_Md_row_29 rfl rfl ?_
        refine rn_iconst (pc := 30) (3 : Int32) dk_Md_row_30 cn_i_3 ?_
        refine rn_icmp_le (pc := 31) 41 dk_Md_row_31 (by decide) (fun c6 => ?_) (fun c6 => ?_)
        · refine rn_iload_n (pc := 41) 3 dk_Md_row_41 rfl rfl ?_
          refine rn_sipush (pc := 42) (160 : Int32) dk_Md_row_42 cn_s_160 ?_
          refine rn_icmp_le (pc := 45) 55 dk_Md_row_45 (by decide) (fun c7 => ?_) (fun c7 => ?_)
          · refine rn_aload_n (pc := 55) 0 dk_Md_row_55 rfl rfl rfl ?_
            refine gf_Md_44 (pc := 56) rfl dk_Md_row_56 ?_
            refine rn_iload_n (pc := 59) 1 dk_Md_row_59 rfl rfl ?_
            refine rn_iconst (pc := 60) (1 : Int32) dk_Md_row_60 cn_i_1 ?_
            refine rn_iastore (pc := 61) rfl dk_Md_row_61 (fun g8 => ?_)
            refine rn_lets (fun s9 => ?_)
            refine rn_aload_n (pc := 62) 0 dk_Md_row_62 rfl rfl rfl ?_
            refine gf_Md_47 (pc := 63) rfl dk_Md_row_63 ?_
            refine rn_iload_n (pc := 66) 1 dk_Md_row_66 rfl rfl ?_
            refine rn_iload_n (pc := 67) 2 dk_Md_row_67 rfl rfl ?_
            refine rn_iastore (pc := 68) rfl dk_Md_row_68 (fun g10 => ?_)
            refine rn_lets (fun s11 => ?_)
            refine rn_aload_n (pc := 69) 0 dk_Md_row_69 rfl rfl rfl ?_
            refine gf_Md_50 (pc := 70) rfl dk_Md_row_70 ?_
            refine rn_iload_n (pc := 73) 1 dk_Md_row_73 rfl rfl ?_
            refine rn_iload_n (pc := 74) 3 dk_Md_row_74 rfl rfl ?_
            refine rn_iastore (pc := 75) rfl dk_Md_row_75 (fun g12 => ?_)
            refine rn_lets (fun s13 => ?_)
            refine rn_iconst (pc := 76) (0 : Int32) dk_Md_row_76 cn_i_0 ?_
            refine rn_istore (pc := 77) dk_Md_row_77 rfl rfl ?_
            refine rn_sub (by rfl) (r_Md_row_l79 X F hF0 _ (fun s17 => ?_) 400 p1 (0 : Int32) s13)
            refine rn_iconst (pc := 107) (1 : Int32) dk_Md_row_107 cn_i_1 ?_
            exact rn_iret rfl dk_Md_row_108
          · refine rn_aload_n (pc := 48) 0 dk_Md_row_48 rfl rfl rfl ?_
            refine rn_bipush (pc := 49) (-7 : Int32) dk_Md_row_49 cn_b_m7 ?_
            refine cl_Md_97 (pc := 51) (As := [.int (-7 : Int32)]) (st := []) rfl (ct_Md_no X (-7 : Int32) q1.2) (Nat.le_trans (Nat.le_of_ble_eq_true rfl) hF0) rfl rfl (Nat.le_of_ble_eq_true rfl) dk_Md_row_51 (fun q18 => ?_)
            exact rn_iret rfl dk_Md_row_54
        · refine rn_aload_n (pc := 34) 0 dk_Md_row_34 rfl rfl rfl ?_
          refine rn_bipush (pc := 35) (-6 : Int32) dk_Md_row_35 cn_b_m6 ?_
          refine cl_Md_97 (pc := 37) (As := [.int (-6 : Int32)]) (st := []) rfl (ct_Md_no X (-6 : Int32) q1.2) (Nat.le_trans (Nat.le_of_ble_eq_true rfl) hF0) rfl rfl (Nat.le_of_ble_eq_true rfl) dk_Md_row_37 (fun q19 => ?_)
          exact rn_iret rfl dk_Md_row_40
    · refine rn_aload_n (pc := 18) 0 dk_Md_row_18 rfl rfl rfl ?_
      refine rn_bipush (pc := 19) (-4 : Int32) dk_Md_row_19 cn_b_m4 ?_
      refine cl_Md_97 (pc := 21) (As := [.int (-4 : Int32)]) (st := []) rfl (ct_Md_no X (-4 : Int32) q1.2) (Nat.le_trans (Nat.le_of_ble_eq_true rfl) hF0) rfl rfl (Nat.le_of_ble_eq_true rfl) dk_Md_row_21 (fun q20 => ?_)
      exact rn_iret rfl dk_Md_row_24
  · refine rn_aload_n (pc := 8) 0 dk_Md_row_8 rfl rfl rfl ?_
    refine rn_iconst (pc := 9) (-1 : Int32) dk_Md_row_9 cn_i_m1 ?_
    refine cl_Md_97 (pc := 10) (As := [.int (-1 : Int32)]) (st := []) rfl (ct_Md_no X (-1 : Int32) q1.2) (Nat.le_trans (Nat.le_of_ble_eq_true rfl) hF0) rfl rfl (Nat.le_of_ble_eq_true rfl) dk_Md_row_10 (fun q21 => ?_)
    exact rn_iret rfl dk_Md_row_13
theorem dk_Md_set_0 : decode mi_Md_set.2.1 0 = .ok (.aload_n 0, 1) := by decide +kernel
theorem dk_Md_set_1 : decode mi_Md_set.2.1 1 = .ok (.iload_n 1, 1) := by decide +kernel
theorem dk_Md_set_2 : decode mi_Md_set.2.1 2 = .ok (.invokevirtual 93, 3) := by decide +kernel
theorem dk_Md_set_5 : decode mi_Md_set.2.1 5 = .ok (.ifCond .ne 9, 3) := by decide +kernel
theorem dk_Md_set_8 : decode mi_Md_set.2.1 8 = .ok (.aload_n 0, 1) := by decide +kernel
theorem dk_Md_set_9 : decode mi_Md_set.2.1 9 = .ok (.iconst (-1), 1) := by decide +kernel
theorem dk_Md_set_10 : decode mi_Md_set.2.1 10 = .ok (.invokevirtual 97, 3) := by decide +kernel
theorem dk_Md_set_13 : decode mi_Md_set.2.1 13 = .ok (.ireturn, 1) := by decide +kernel
theorem dk_Md_set_14 : decode mi_Md_set.2.1 14 = .ok (.aload_n 0, 1) := by decide +kernel
theorem dk_Md_set_15 : decode mi_Md_set.2.1 15 = .ok (.getfield 44, 3) := by decide +kernel
theorem dk_Md_set_18 : decode mi_Md_set.2.1 18 = .ok (.iload_n 1, 1) := by decide +kernel
theorem dk_Md_set_19 : decode mi_Md_set.2.1 19 = .ok (.iaload, 1) := by decide +kernel
theorem dk_Md_set_20 : decode mi_Md_set.2.1 20 = .ok (.iconst 2, 1) := by decide +kernel
theorem dk_Md_set_21 : decode mi_Md_set.2.1 21 = .ok (.if_icmp .ne 10, 3) := by decide +kernel
theorem dk_Md_set_24 : decode mi_Md_set.2.1 24 = .ok (.aload_n 0, 1) := by decide +kernel
theorem dk_Md_set_25 : decode mi_Md_set.2.1 25 = .ok (.bipush (-2), 2) := by decide +kernel
theorem dk_Md_set_27 : decode mi_Md_set.2.1 27 = .ok (.invokevirtual 97, 3) := by decide +kernel
theorem dk_Md_set_30 : decode mi_Md_set.2.1 30 = .ok (.ireturn, 1) := by decide +kernel
theorem dk_Md_set_31 : decode mi_Md_set.2.1 31 = .ok (.aload_n 0, 1) := by decide +kernel
theorem dk_Md_set_32 : decode mi_Md_set.2.1 32 = .ok (.getfield 44, 3) := by decide +kernel
theorem dk_Md_set_35 : decode mi_Md_set.2.1 35 = .ok (.iload_n 1, 1) := by decide +kernel
theorem dk_Md_set_36 : decode mi_Md_set.2.1 36 = .ok (.iaload, 1) := by decide +kernel
theorem dk_Md_set_37 : decode mi_Md_set.2.1 37 = .ok (.ifCond .ne 10, 3) := by decide +kernel
theorem dk_Md_set_40 : decode mi_Md_set.2.1 40 = .ok (.aload_n 0, 1) := by decide +kernel
theorem dk_Md_set_41 : decode mi_Md_set.2.1 41 = .ok (.bipush (-3), 2) := by decide +kernel
theorem dk_Md_set_43 : decode mi_Md_set.2.1 43 = .ok (.invokevirtual 97, 3) := by decide +kernel
theorem dk_Md_set_46 : decode mi_Md_set.2.1 46 = .ok (.ireturn, 1) := by decide +kernel
theorem dk_Md_set_47 : decode mi_Md_set.2.1 47 = .ok (.iload_n 2, 1) := by decide +kernel
theorem dk_Md_set_48 : decode mi_Md_set.2.1 48 = .ok (.ifCond .lt 13, 3) := by decide +kernel
theorem dk_Md_set_51 : decode mi_Md_set.2.1 51 = .ok (.iload_n 2, 1) := by decide +kernel
theorem dk_Md_set_52 : decode mi_Md_set.2.1 52 = .ok (.aload_n 0, 1) := by decide +kernel
theorem dk_Md_set_53 : decode mi_Md_set.2.1 53 = .ok (.getfield 50, 3) := by decide +kernel
theorem dk_Md_set_56 : decode mi_Md_set.2.1 56 = .ok (.iload_n 1, 1) := by decide +kernel
theorem dk_Md_set_57 : decode mi_Md_set.2.1 57 = .ok (.iaload, 1) := by decide +kernel
theorem dk_Md_set_58 : decode mi_Md_set.2.1 58 = .ok (.if_icmp .lt 10, 3) := by decide +kernel
theorem dk_Md_set_61 : decode mi_Md_set.2.1 61 = .ok (.aload_n 0, 1) := by decide +kernel
theorem dk_Md_set_62 : decode mi_Md_set.2.1 62 = .ok (.bipush (-5), 2) := by decide +kernel
theorem dk_Md_set_64 : decode mi_Md_set.2.1 64 = .ok (.invokevirtual 97, 3) := by decide +kernel
theorem dk_Md_set_67 : decode mi_Md_set.2.1 67 = .ok (.ireturn, 1) := by decide +kernel
theorem dk_Md_set_68 : decode mi_Md_set.2.1 68 = .ok (.aload_n 0, 1) := by decide +kernel
theorem dk_Md_set_69 : decode mi_Md_set.2.1 69 = .ok (.getfield 56, 3) := by decide +kernel
theorem dk_Md_set_72 : decode mi_Md_set.2.1 72 = .ok (.sipush 160, 3) := by decide +kernel
theorem dk_Md_set_75 : decode mi_Md_set.2.1 75 = .ok (.iload_n 1, 1) := by decide +kernel
theorem dk_Md_set_76 : decode mi_Md_set.2.1 76 = .ok (.imul, 1) := by decide +kernel
theorem dk_Md_set_77 : decode mi_Md_set.2.1 77 = .ok (.iload_n 2, 1) := by decide +kernel
theorem dk_Md_set_78 : decode mi_Md_set.2.1 78 = .ok (.iadd, 1) := by decide +kernel
theorem dk_Md_set_79 : decode mi_Md_set.2.1 79 = .ok (.aload_n 0, 1) := by decide +kernel
theorem dk_Md_set_80 : decode mi_Md_set.2.1 80 = .ok (.getfield 47, 3) := by decide +kernel
theorem dk_Md_set_83 : decode mi_Md_set.2.1 83 = .ok (.iload_n 1, 1) := by decide +kernel
theorem dk_Md_set_84 : decode mi_Md_set.2.1 84 = .ok (.iaload, 1) := by decide +kernel
theorem dk_Md_set_85 : decode mi_Md_set.2.1 85 = .ok (.ifCond .ne 10, 3) := by decide +kernel
theorem dk_Md_set_88 : decode mi_Md_set.2.1 88 = .ok (.lload_n 3, 1) := by decide +kernel
theorem dk_Md_set_89 : decode mi_Md_set.2.1 89 = .ok (.l2i, 1) := by decide +kernel
theorem dk_Md_set_90 : decode mi_Md_set.2.1 90 = .ok (.i2b, 1) := by decide +kernel
theorem dk_Md_set_91 : decode mi_Md_set.2.1 91 = .ok (.i2l, 1) := by decide +kernel
theorem dk_Md_set_92 : decode mi_Md_set.2.1 92 = .ok (.goto 37, 3) := by decide +kernel
theorem dk_Md_set_95 : decode mi_Md_set.2.1 95 = .ok (.aload_n 0, 1) := by decide +kernel
theorem dk_Md_set_96 : decode mi_Md_set.2.1 96 = .ok (.getfield 47, 3) := by decide +kernel
theorem dk_Md_set_99 : decode mi_Md_set.2.1 99 = .ok (.iload_n 1, 1) := by decide +kernel
theorem dk_Md_set_100 : decode mi_Md_set.2.1 100 = .ok (.iaload, 1) := by decide +kernel
theorem dk_Md_set_101 : decode mi_Md_set.2.1 101 = .ok (.iconst 1, 1) := by decide +kernel
theorem dk_Md_set_102 : decode mi_Md_set.2.1 102 = .ok (.if_icmp .ne 10, 3) := by decide +kernel
theorem dk_Md_set_105 : decode mi_Md_set.2.1 105 = .ok (.lload_n 3, 1) := by decide +kernel
theorem dk_Md_set_106 : decode mi_Md_set.2.1 106 = .ok (.l2i, 1) := by decide +kernel
theorem dk_Md_set_107 : decode mi_Md_set.2.1 107 = .ok (.i2s, 1) := by decide +kernel
theorem dk_Md_set_108 : decode mi_Md_set.2.1 108 = .ok (.i2l, 1) := by decide +kernel
theorem dk_Md_set_109 : decode mi_Md_set.2.1 109 = .ok (.goto 20, 3) := by decide +kernel
theorem dk_Md_set_112 : decode mi_Md_set.2.1 112 = .ok (.aload_n 0, 1) := by decide +kernel
theorem dk_Md_set_113 : decode mi_Md_set.2.1 113 = .ok (.getfield 47, 3) := by decide +kernel
theorem dk_Md_set_116 : decode mi_Md_set.2.1 116 = .ok (.iload_n 1, 1) := by decide +kernel
theorem dk_Md_set_117 : decode mi_Md_set.2.1 117 = .ok (.iaload, 1) := by decide +kernel
theorem dk_Md_set_118 : decode mi_Md_set.2.1 118 = .ok (.iconst 2, 1) := by decide +kernel
theorem dk_Md_set_119 : decode mi_Md_set.2.1 119 = .ok (.if_icmp .ne 9, 3) := by decide +kernel
theorem dk_Md_set_122 : decode mi_Md_set.2.1 122 = .ok (.lload_n 3, 1) := by decide +kernel
theorem dk_Md_set_123 : decode mi_Md_set.2.1 123 = .ok (.l2i, 1) := by decide +kernel
theorem dk_Md_set_124 : decode mi_Md_set.2.1 124 = .ok (.i2l, 1) := by decide +kernel
theorem dk_Md_set_125 : decode mi_Md_set.2.1 125 = .ok (.goto 4, 3) := by decide +kernel
theorem dk_Md_set_128 : decode mi_Md_set.2.1 128 = .ok (.lload_n 3, 1) := by decide +kernel
theorem dk_Md_set_129 : decode mi_Md_set.2.1 129 = .ok (.lastore, 1) := by decide +kernel
theorem dk_Md_set_130 : decode mi_Md_set.2.1 130 = .ok (.iconst 1, 1) := by decide +kernel
theorem dk_Md_set_131 : decode mi_Md_set.2.1 131 = .ok (.ireturn, 1) := by decide +kernel
def Md_set (p1 : Int32) (p2 : Int32) (p3 : Int64) (σ : nm_St) : Option (Int32 × nm_St) :=
  ((Md_isShelf p1 σ).bind fun q1 =>
  (if q1.1 = 0 then
    ((Md_no (-1 : Int32) q1.2).bind fun q28 =>
    some (q28.1, q28.2))
  else
    (nm_g (nm_in p1 8) (
    (if (q1.2.1 78 p1.toNatClampNeg) = (2 : Int32) then
      ((Md_no (-2 : Int32) q1.2).bind fun q27 =>
      some (q27.1, q27.2))
    else
      (nm_g (nm_in p1 8) (
      (if (q1.2.1 78 p1.toNatClampNeg) = 0 then
        ((Md_no (-3 : Int32) q1.2).bind fun q26 =>
        some (q26.1, q26.2))
      else
        (if p2 < 0 then
          ((Md_no (-5 : Int32) q1.2).bind fun q8 =>
          some (q8.1, q8.2))
        else
          (nm_g (nm_in p1 8) (
          (if p2 < (q1.2.1 80 p1.toNatClampNeg) then
            (nm_g (nm_in p1 8) (
            (if (q1.2.1 79 p1.toNatClampNeg) = 0 then
              (nm_g (nm_in (((160 : Int32) * p1) + p2) 1280) (
              (nm_let (nm_pJ q1.2 82 (((160 : Int32) * p1) + p2).toNatClampNeg (Int32.toInt64 (Int8.toInt32 (Int32.toInt8 (Int64.toInt32 p3))))) fun s24 =>
              some ((1 : Int32), s24))))
            else
              (nm_g (nm_in p1 8) (
              (if (q1.2.1 79 p1.toNatClampNeg) = (1 : Int32) then
                (nm_g (nm_in (((160 : Int32) * p1) + p2) 1280) (
                (nm_let (nm_pJ q1.2 82 (((160 : Int32) * p1) + p2).toNatClampNeg (Int32.toInt64 (Int16.toInt32 (Int32.toInt16 (Int64.toInt32 p3))))) fun s22 =>
                some ((1 : Int32), s22))))
              else
                (nm_g (nm_in p1 8) (
                (if (q1.2.1 79 p1.toNatClampNeg) = (2 : Int32) then
                  (nm_g (nm_in (((160 : Int32) * p1) + p2) 1280) (
                  (nm_let (nm_pJ q1.2 82 (((160 : Int32) * p1) + p2).toNatClampNeg (Int32.toInt64 (Int64.toInt32 p3))) fun s20 =>
                  some ((1 : Int32), s20))))
                else
                  (nm_g (nm_in (((160 : Int32) * p1) + p2) 1280) (
                  (nm_let (nm_pJ q1.2 82 (((160 : Int32) * p1) + p2).toNatClampNeg p3) fun s18 =>
                  some ((1 : Int32), s18)))))))))))))
          else
            ((Md_no (-5 : Int32) q1.2).bind fun q25 =>
            some (q25.1, q25.2))))))))))))))
set_option maxRecDepth 100000 in
set_option maxHeartbeats 4000000 in
theorem ct_Md_set (X : nm_X) (p1 : Int32) (p2 : Int32) (p3 : Int64) (σ : nm_St) : Ct X mi_Md_set 1 nm_wI [.ref 70, .int p1, .int p2, .long p3] σ (Md_set p1 p2 p3 σ) := by
  refine Ct.of (by decide +kernel) rfl (fun F hF0 => ?_)
  unfold Md_set
  refine rn_aload_n (pc := 0) 0 dk_Md_set_0 rfl rfl rfl ?_
  refine rn_iload_n (pc := 1) 1 dk_Md_set_1 rfl rfl ?_
  refine cl_Md_93 (pc := 2) (As := [.int p1]) (st := []) rfl (ct_Md_isShelf X p1 σ) (Nat.le_trans (Nat.le_of_ble_eq_true rfl) hF0) rfl rfl (Nat.le_of_ble_eq_true rfl) dk_Md_set_2 (fun q1 => ?_)
  refine rn_if_ne (pc := 5) 14 dk_Md_set_5 (by decide) (fun c2 => ?_) (fun c2 => ?_)
  · refine rn_aload_n (pc := 14) 0 dk_Md_set_14 rfl rfl rfl ?_
    refine gf_Md_44 (pc := 15) rfl dk_Md_set_15 ?_
    refine rn_iload_n (pc := 18) 1 dk_Md_set_18 rfl rfl ?_
    refine rn_iaload (pc := 19) rfl dk_Md_set_19 (fun g3 => ?_)
    refine rn_iconst (pc := 20) (2 : Int32) dk_Md_set_20 cn_i_2 ?_
    refine rn_icmp_ne (pc := 21) 31 dk_Md_set_21 (by decide) (fun c4 => ?_) (fun c4 => ?_)
    · refine rn_aload_n (pc := 31) 0 dk_Md_set_31 rfl rfl rfl ?_
      refine gf_Md_44 (pc := 32) rfl dk_Md_set_32 ?_
      refine rn_iload_n (pc := 35) 1 dk_Md_set_35 rfl rfl ?_
      refine rn_iaload (pc := 36) rfl dk_Md_set_36 (fun g5 => ?_)
      refine rn_if_ne (pc := 37) 47 dk_Md_set_37 (by decide) (fun c6 => ?_) (fun c6 => ?_)
      · refine rn_iload_n (pc := 47) 2 dk_Md_set_47 rfl rfl ?_
        refine rn_if_lt (pc := 48) 61 dk_Md_set_48 (by decide) (fun c7 => ?_) (fun c7 => ?_)
        · refine rn_aload_n (pc := 61) 0 dk_Md_set_61 rfl rfl rfl ?_
          refine rn_bipush (pc := 62) (-5 : Int32) dk_Md_set_62 cn_b_m5 ?_
          refine cl_Md_97 (pc := 64) (As := [.int (-5 : Int32)]) (st := []) rfl (ct_Md_no X (-5 : Int32) q1.2) (Nat.le_trans (Nat.le_of_ble_eq_true rfl) hF0) rfl rfl (Nat.le_of_ble_eq_true rfl) dk_Md_set_64 (fun q8 => ?_)
          exact rn_iret rfl dk_Md_set_67
        · refine rn_iload_n (pc := 51) 2 dk_Md_set_51 rfl rfl ?_
          refine rn_aload_n (pc := 52) 0 dk_Md_set_52 rfl rfl rfl ?_
          refine gf_Md_50 (pc := 53) rfl dk_Md_set_53 ?_
          refine rn_iload_n (pc := 56) 1 dk_Md_set_56 rfl rfl ?_
          refine rn_iaload (pc := 57) rfl dk_Md_set_57 (fun g9 => ?_)
          refine rn_icmp_lt (pc := 58) 68 dk_Md_set_58 (by decide) (fun c10 => ?_) (fun c10 => ?_)
          · refine rn_aload_n (pc := 68) 0 dk_Md_set_68 rfl rfl rfl ?_
            refine gf_Md_56 (pc := 69) rfl dk_Md_set_69 ?_
            refine rn_sipush (pc := 72) (160 : Int32) dk_Md_set_72 cn_s_160 ?_
            refine rn_iload_n (pc := 75) 1 dk_Md_set_75 rfl rfl ?_
            refine rn_imul (pc := 76) dk_Md_set_76 ?_
            refine rn_iload_n (pc := 77) 2 dk_Md_set_77 rfl rfl ?_
            refine rn_iadd (pc := 78) dk_Md_set_78 ?_
            refine rn_aload_n (pc := 79) 0 dk_Md_set_79 rfl rfl rfl ?_
            refine gf_Md_47 (pc := 80) rfl dk_Md_set_80 ?_
            refine rn_iload_n (pc := 83) 1 dk_Md_set_83 rfl rfl ?_
            refine rn_iaload (pc := 84) rfl dk_Md_set_84 (fun g11 => ?_)
            refine rn_if_ne (pc := 85) 95 dk_Md_set_85 (by decide) (fun c12 => ?_) (fun c12 => ?_)
            · refine rn_aload_n (pc := 95) 0 dk_Md_set_95 rfl rfl rfl ?_
              refine gf_Md_47 (pc := 96) rfl dk_Md_set_96 ?_
              refine rn_iload_n (pc := 99) 1 dk_Md_set_99 rfl rfl ?_
              refine rn_iaload (pc := 100) rfl dk_Md_set_100 (fun g13 => ?_)
              refine rn_iconst (pc := 101) (1 : Int32) dk_Md_set_101 cn_i_1 ?_
              refine rn_icmp_ne (pc := 102) 112 dk_Md_set_102 (by decide) (fun c14 => ?_) (fun c14 => ?_)
              · refine rn_aload_n (pc := 112) 0 dk_Md_set_112 rfl rfl rfl ?_
                refine gf_Md_47 (pc := 113) rfl dk_Md_set_113 ?_
                refine rn_iload_n (pc := 116) 1 dk_Md_set_116 rfl rfl ?_
                refine rn_iaload (pc := 117) rfl dk_Md_set_117 (fun g15 => ?_)
                refine rn_iconst (pc := 118) (2 : Int32) dk_Md_set_118 cn_i_2 ?_
                refine rn_icmp_ne (pc := 119) 128 dk_Md_set_119 (by decide) (fun c16 => ?_) (fun c16 => ?_)
                · refine rn_lload_n (pc := 128) 3 dk_Md_set_128 rfl rfl ?_
                  refine rn_lastore (pc := 129) rfl dk_Md_set_129 (fun g17 => ?_)
                  refine rn_lets (fun s18 => ?_)
                  refine rn_iconst (pc := 130) (1 : Int32) dk_Md_set_130 cn_i_1 ?_
                  exact rn_iret rfl dk_Md_set_131
                · refine rn_lload_n (pc := 122) 3 dk_Md_set_122 rfl rfl ?_
                  refine rn_l2i (pc := 123) dk_Md_set_123 ?_
                  refine rn_i2l (pc := 124) dk_Md_set_124 ?_
                  refine rn_goto (pc := 125) 129 dk_Md_set_125 (by decide) ?_
                  refine rn_lastore (pc := 129) rfl dk_Md_set_129 (fun g19 => ?_)
                  refine rn_lets (fun s20 => ?_)
                  refine rn_iconst (pc := 130) (1 : Int32) dk_Md_set_130 cn_i_1 ?_
                  exact rn_iret rfl dk_Md_set_131
              · refine rn_lload_n (pc := 105) 3 dk_Md_set_105 rfl rfl ?_
                refine rn_l2i (pc := 106) dk_Md_set_106 ?_
                refine rn_i2s (pc := 107) dk_Md_set_107 ?_
                refine rn_i2l (pc := 108) dk_Md_set_108 ?_
                refine rn_goto (pc := 109) 129 dk_Md_set_109 (by decide) ?_
                refine rn_lastore (pc := 129) rfl dk_Md_set_129 (fun g21 => ?_)
                refine rn_lets (fun s22 => ?_)
                refine rn_iconst (pc := 130) (1 : Int32) dk_Md_set_130 cn_i_1 ?_
                exact rn_iret rfl dk_Md_set_131
            · refine rn_lload_n (pc := 88) 3 dk_Md_set_88 rfl rfl ?_
              refine rn_l2i (pc := 89) dk_Md_set_89 ?_
              refine rn_i2b (pc := 90) dk_Md_set_90 ?_
              refine rn_i2l (pc := 91) dk_Md_set_91 ?_
              refine rn_goto (pc := 92) 129 dk_Md_set_92 (by decide) ?_
              refine rn_lastore (pc := 129) rfl dk_Md_set_129 (fun g23 => ?_)
              refine rn_lets (fun s24 => ?_)
              refine rn_iconst (pc := 130) (1 : Int32) dk_Md_set_130 cn_i_1 ?_
              exact rn_iret rfl dk_Md_set_131
          · refine rn_aload_n (pc := 61) 0 dk_Md_set_61 rfl rfl rfl ?_
            refine rn_bipush (pc := 62) (-5 : Int32) dk_Md_set_62 cn_b_m5 ?_
            refine cl_Md_97 (pc := 64) (As := [.int (-5 : Int32)]) (st := []) rfl (ct_Md_no X (-5 : Int32) q1.2) (Nat.le_trans (Nat.le_of_ble_eq_true rfl) hF0) rfl rfl (Nat.le_of_ble_eq_true rfl) dk_Md_set_64 (fun q25 => ?_)
            exact rn_iret rfl dk_Md_set_67
      · refine rn_aload_n (pc := 40) 0 dk_Md_set_40 rfl rfl rfl ?_
        refine rn_bipush (pc := 41) (-3 : Int32) dk_Md_set_41 cn_b_m3 ?_
        refine cl_Md_97 (pc := 43) (As := [.int (-3 : Int32)]) (st := []) rfl (ct_Md_no X (-3 : Int32) q1.2) (Nat.le_trans (Nat.le_of_ble_eq_true rfl) hF0) rfl rfl (Nat.le_of_ble_eq_true rfl) dk_Md_set_43 (fun q26 => ?_)
        exact rn_iret rfl dk_Md_set_46
    · refine rn_aload_n (pc := 24) 0 dk_Md_set_24 rfl rfl rfl ?_
      refine rn_bipush (pc := 25) (-2 : Int32) dk_Md_set_25 cn_b_m2 ?_
      refine cl_Md_97 (pc := 27) (As := [.int (-2 : Int32)]) (st := []) rfl (ct_Md_no X (-2 : Int32) q1.2) (Nat.le_trans (Nat.le_of_ble_eq_true rfl) hF0) rfl rfl (Nat.le_of_ble_eq_true rfl) dk_Md_set_27 (fun q27 => ?_)
      exact rn_iret rfl dk_Md_set_30
  · refine rn_aload_n (pc := 8) 0 dk_Md_set_8 rfl rfl rfl ?_
    refine rn_iconst (pc := 9) (-1 : Int32) dk_Md_set_9 cn_i_m1 ?_
    refine cl_Md_97 (pc := 10) (As := [.int (-1 : Int32)]) (st := []) rfl (ct_Md_no X (-1 : Int32) q1.2) (Nat.le_trans (Nat.le_of_ble_eq_true rfl) hF0) rfl rfl (Nat.le_of_ble_eq_true rfl) dk_Md_set_10 (fun q28 => ?_)
    exact rn_iret rfl dk_Md_set_13
theorem dk_Md_copy_0 : decode mi_Md_copy.2.1 0 = .ok (.aload_n 0, 1) := by decide +kernel
theorem dk_Md_copy_1 : decode mi_Md_copy.2.1 1 = .ok (.iload_n 1, 1) := by decide +kernel
theorem dk_Md_copy_2 : decode mi_Md_copy.2.1 2 = .ok (.invokevirtual 93, 3) := by decide +kernel
theorem dk_Md_copy_5 : decode mi_Md_copy.2.1 5 = .ok (.ifCond .eq 11, 3) := by decide +kernel
theorem dk_Md_copy_8 : decode mi_Md_copy.2.1 8 = .ok (.aload_n 0, 1) := by decide +kernel
theorem dk_Md_copy_9 : decode mi_Md_copy.2.1 9 = .ok (.iload_n 2, 1) := by decide +kernel
theorem dk_Md_copy_10 : decode mi_Md_copy.2.1 10 = .ok (.invokevirtual 93, 3) := by decide +kernel
theorem dk_Md_copy_13 : decode mi_Md_copy.2.1 13 = .ok (.ifCond .ne 9, 3) := by decide +kernel
theorem dk_Md_copy_16 : decode mi_Md_copy.2.1 16 = .ok (.aload_n 0, 1) := by decide +kernel
theorem dk_Md_copy_17 : decode mi_Md_copy.2.1 17 = .ok (.iconst (-1), 1) := by decide +kernel
theorem dk_Md_copy_18 : decode mi_Md_copy.2.1 18 = .ok (.invokevirtual 97, 3) := by decide +kernel
theorem dk_Md_copy_21 : decode mi_Md_copy.2.1 21 = .ok (.ireturn, 1) := by decide +kernel
theorem dk_Md_copy_22 : decode mi_Md_copy.2.1 22 = .ok (.aload_n 0, 1) := by decide +kernel
theorem dk_Md_copy_23 : decode mi_Md_copy.2.1 23 = .ok (.getfield 44, 3) := by decide +kernel
theorem dk_Md_copy_26 : decode mi_Md_copy.2.1 26 = .ok (.iload_n 1, 1) := by decide +kernel
theorem dk_Md_copy_27 : decode mi_Md_copy.2.1 27 = .ok (.iaload, 1) := by decide +kernel
theorem dk_Md_copy_28 : decode mi_Md_copy.2.1 28 = .ok (.iconst 2, 1) := by decide +kernel
theorem dk_Md_copy_29 : decode mi_Md_copy.2.1 29 = .ok (.if_icmp .eq 48, 3) := by decide +kernel
theorem dk_Md_copy_32 : decode mi_Md_copy.2.1 32 = .ok (.aload_n 0, 1) := by decide +kernel
theorem dk_Md_copy_33 : decode mi_Md_copy.2.1 33 = .ok (.getfield 44, 3) := by decide +kernel
theorem dk_Md_copy_36 : decode mi_Md_copy.2.1 36 = .ok (.iload_n 2, 1) := by decide +kernel
theorem dk_Md_copy_37 : decode mi_Md_copy.2.1 37 = .ok (.iaload, 1) := by decide +kernel
theorem dk_Md_copy_38 : decode mi_Md_copy.2.1 38 = .ok (.iconst 2, 1) := by decide +kernel
theorem dk_Md_copy_39 : decode mi_Md_copy.2.1 39 = .ok (.if_icmp .eq 38, 3) := by decide +kernel
theorem dk_Md_copy_42 : decode mi_Md_copy.2.1 42 = .ok (.aload_n 0, 1) := by decide +kernel
theorem dk_Md_copy_43 : decode mi_Md_copy.2.1 43 = .ok (.getfield 44, 3) := by decide +kernel
theorem dk_Md_copy_46 : decode mi_Md_copy.2.1 46 = .ok (.iload_n 1, 1) := by decide +kernel
theorem dk_Md_copy_47 : decode mi_Md_copy.2.1 47 = .ok (.iaload, 1) := by decide +kernel
theorem dk_Md_copy_48 : decode mi_Md_copy.2.1 48 = .ok (.iconst 1, 1) := by decide +kernel
theorem dk_Md_copy_49 : decode mi_Md_copy.2.1 49 = .ok (.if_icmp .ne 35, 3) := by decide +kernel
theorem dk_Md_copy_52 : decode mi_Md_copy.2.1 52 = .ok (.aload_n 0, 1) := by decide +kernel
theorem dk_Md_copy_53 : decode mi_Md_copy.2.1 53 = .ok (.getfield 44, 3) := by decide +kernel
theorem dk_Md_copy_56 : decode mi_Md_copy.2.1 56 = .ok (.iload_n 2, 1) := by decide +kernel
theorem dk_Md_copy_57 : decode mi_Md_copy.2.1 57 = .ok (.iaload, 1) := by decide +kernel
theorem dk_Md_copy_58 : decode mi_Md_copy.2.1 58 = .ok (.iconst 1, 1) := by decide +kernel
theorem dk_Md_copy_59 : decode mi_Md_copy.2.1 59 = .ok (.if_icmp .ne 25, 3) := by decide +kernel
theorem dk_Md_copy_62 : decode mi_Md_copy.2.1 62 = .ok (.aload_n 0, 1) := by decide +kernel
theorem dk_Md_copy_63 : decode mi_Md_copy.2.1 63 = .ok (.getfield 47, 3) := by decide +kernel
theorem dk_Md_copy_66 : decode mi_Md_copy.2.1 66 = .ok (.iload_n 1, 1) := by decide +kernel
theorem dk_Md_copy_67 : decode mi_Md_copy.2.1 67 = .ok (.iaload, 1) := by decide +kernel
theorem dk_Md_copy_68 : decode mi_Md_copy.2.1 68 = .ok (.aload_n 0, 1) := by decide +kernel
theorem dk_Md_copy_69 : decode mi_Md_copy.2.1 69 = .ok (.getfield 47, 3) := by decide +kernel
theorem dk_Md_copy_72 : decode mi_Md_copy.2.1 72 = .ok (.iload_n 2, 1) := by decide +kernel
theorem dk_Md_copy_73 : decode mi_Md_copy.2.1 73 = .ok (.iaload, 1) := by decide +kernel
theorem dk_Md_copy_74 : decode mi_Md_copy.2.1 74 = .ok (.if_icmp .eq 10, 3) := by decide +kernel
theorem dk_Md_copy_77 : decode mi_Md_copy.2.1 77 = .ok (.aload_n 0, 1) := by decide +kernel
theorem dk_Md_copy_78 : decode mi_Md_copy.2.1 78 = .ok (.bipush (-2), 2) := by decide +kernel
theorem dk_Md_copy_80 : decode mi_Md_copy.2.1 80 = .ok (.invokevirtual 97, 3) := by decide +kernel
theorem dk_Md_copy_83 : decode mi_Md_copy.2.1 83 = .ok (.ireturn, 1) := by decide +kernel
theorem dk_Md_copy_84 : decode mi_Md_copy.2.1 84 = .ok (.aload_n 0, 1) := by decide +kernel
theorem dk_Md_copy_85 : decode mi_Md_copy.2.1 85 = .ok (.getfield 44, 3) := by decide +kernel
theorem dk_Md_copy_88 : decode mi_Md_copy.2.1 88 = .ok (.iload_n 1, 1) := by decide +kernel
theorem dk_Md_copy_89 : decode mi_Md_copy.2.1 89 = .ok (.iaload, 1) := by decide +kernel
theorem dk_Md_copy_90 : decode mi_Md_copy.2.1 90 = .ok (.ifCond .eq 12, 3) := by decide +kernel
theorem dk_Md_copy_93 : decode mi_Md_copy.2.1 93 = .ok (.aload_n 0, 1) := by decide +kernel
theorem dk_Md_copy_94 : decode mi_Md_copy.2.1 94 = .ok (.getfield 44, 3) := by decide +kernel
theorem dk_Md_copy_97 : decode mi_Md_copy.2.1 97 = .ok (.iload_n 2, 1) := by decide +kernel
theorem dk_Md_copy_98 : decode mi_Md_copy.2.1 98 = .ok (.iaload, 1) := by decide +kernel
theorem dk_Md_copy_99 : decode mi_Md_copy.2.1 99 = .ok (.ifCond .ne 10, 3) := by decide +kernel
theorem dk_Md_copy_102 : decode mi_Md_copy.2.1 102 = .ok (.aload_n 0, 1) := by decide +kernel
theorem dk_Md_copy_103 : decode mi_Md_copy.2.1 103 = .ok (.bipush (-3), 2) := by decide +kernel
theorem dk_Md_copy_105 : decode mi_Md_copy.2.1 105 = .ok (.invokevirtual 97, 3) := by decide +kernel
theorem dk_Md_copy_108 : decode mi_Md_copy.2.1 108 = .ok (.ireturn, 1) := by decide +kernel
theorem dk_Md_copy_109 : decode mi_Md_copy.2.1 109 = .ok (.iload 5, 2) := by decide +kernel
theorem dk_Md_copy_111 : decode mi_Md_copy.2.1 111 = .ok (.ifCond .ge 10, 3) := by decide +kernel
theorem dk_Md_copy_114 : decode mi_Md_copy.2.1 114 = .ok (.aload_n 0, 1) := by decide +kernel
theorem dk_Md_copy_115 : decode mi_Md_copy.2.1 115 = .ok (.bipush (-4), 2) := by decide +kernel
theorem dk_Md_copy_117 : decode mi_Md_copy.2.1 117 = .ok (.invokevirtual 97, 3) := by decide +kernel
theorem dk_Md_copy_120 : decode mi_Md_copy.2.1 120 = .ok (.ireturn, 1) := by decide +kernel
theorem dk_Md_copy_121 : decode mi_Md_copy.2.1 121 = .ok (.iload_n 3, 1) := by decide +kernel
theorem dk_Md_copy_122 : decode mi_Md_copy.2.1 122 = .ok (.ifCond .lt 35, 3) := by decide +kernel
theorem dk_Md_copy_125 : decode mi_Md_copy.2.1 125 = .ok (.iload 4, 2) := by decide +kernel
theorem dk_Md_copy_127 : decode mi_Md_copy.2.1 127 = .ok (.ifCond .lt 30, 3) := by decide +kernel
theorem dk_Md_copy_130 : decode mi_Md_copy.2.1 130 = .ok (.iload_n 3, 1) := by decide +kernel
theorem dk_Md_copy_131 : decode mi_Md_copy.2.1 131 = .ok (.aload_n 0, 1) := by decide +kernel
theorem dk_Md_copy_132 : decode mi_Md_copy.2.1 132 = .ok (.getfield 50, 3) := by decide +kernel
theorem dk_Md_copy_135 : decode mi_Md_copy.2.1 135 = .ok (.iload_n 1, 1) := by decide +kernel
theorem dk_Md_copy_136 : decode mi_Md_copy.2.1 136 = .ok (.iaload, 1) := by decide +kernel
theorem dk_Md_copy_137 : decode mi_Md_copy.2.1 137 = .ok (.iload 5, 2) := by decide +kernel
theorem dk_Md_copy_139 : decode mi_Md_copy.2.1 139 = .ok (.isub, 1) := by decide +kernel
theorem dk_Md_copy_140 : decode mi_Md_copy.2.1 140 = .ok (.if_icmp .gt 17, 3) := by decide +kernel
theorem dk_Md_copy_143 : decode mi_Md_copy.2.1 143 = .ok (.iload 4, 2) := by decide +kernel
theorem dk_Md_copy_145 : decode mi_Md_copy.2.1 145 = .ok (.aload_n 0, 1) := by decide +kernel
theorem dk_Md_copy_146 : decode mi_Md_copy.2.1 146 = .ok (.getfield 50, 3) := by decide +kernel
theorem dk_Md_copy_149 : decode mi_Md_copy.2.1 149 = .ok (.iload_n 2, 1) := by decide +kernel
theorem dk_Md_copy_150 : decode mi_Md_copy.2.1 150 = .ok (.iaload, 1) := by decide +kernel
theorem dk_Md_copy_151 : decode mi_Md_copy.2.1 151 = .ok (.iload 5, 2) := by decide +kernel
theorem dk_Md_copy_153 : decode mi_Md_copy.2.1 153 = .ok (.isub, 1) := by decide +kernel
theorem dk_Md_copy_154 : decode mi_Md_copy.2.1 154 = .ok (.if_icmp .le 10, 3) := by decide +kernel
theorem dk_Md_copy_157 : decode mi_Md_copy.2.1 157 = .ok (.aload_n 0, 1) := by decide +kernel
theorem dk_Md_copy_158 : decode mi_Md_copy.2.1 158 = .ok (.bipush (-5), 2) := by decide +kernel
theorem dk_Md_copy_160 : decode mi_Md_copy.2.1 160 = .ok (.invokevirtual 97, 3) := by decide +kernel
theorem dk_Md_copy_163 : decode mi_Md_copy.2.1 163 = .ok (.ireturn, 1) := by decide +kernel
theorem dk_Md_copy_164 : decode mi_Md_copy.2.1 164 = .ok (.iconst 0, 1) := by decide +kernel
theorem dk_Md_copy_165 : decode mi_Md_copy.2.1 165 = .ok (.istore 6, 2) := by decide +kernel
theorem dk_Md_copy_167 : decode mi_Md_copy.2.1 167 = .ok (.iload 6, 2) := by decide +kernel
theorem dk_Md_copy_169 : decode mi_Md_copy.2.1 169 = .ok (.iload 5, 2) := by decide +kernel
theorem dk_Md_copy_171 : decode mi_Md_copy.2.1 171 = .ok (.if_icmp .ge 31, 3) := by decide +kernel
theorem dk_Md_copy_174 : decode mi_Md_copy.2.1 174 = .ok (.aload_n 0, 1) := by decide +kernel
theorem dk_Md_copy_175 : decode mi_Md_copy.2.1 175 = .ok (.getfield 60, 3) := by decide +kernel
theorem dk_Md_copy_178 : decode mi_Md_copy.2.1 178 = .ok (.iload 6, 2) := by decide +kernel
theorem dk_Md_copy_180 : decode mi_Md_copy.2.1 180 = .ok (.aload_n 0, 1) := by decide +kernel
theorem dk_Md_copy_181 : decode mi_Md_copy.2.1 181 = .ok (.getfield 56, 3) := by decide +kernel
theorem dk_Md_copy_184 : decode mi_Md_copy.2.1 184 = .ok (.sipush 160, 3) := by decide +kernel
theorem dk_Md_copy_187 : decode mi_Md_copy.2.1 187 = .ok (.iload_n 1, 1) := by decide +kernel
theorem dk_Md_copy_188 : decode mi_Md_copy.2.1 188 = .ok (.imul, 1) := by decide +kernel
theorem dk_Md_copy_189 : decode mi_Md_copy.2.1 189 = .ok (.iload_n 3, 1) := by decide +kernel
theorem dk_Md_copy_190 : decode mi_Md_copy.2.1 190 = .ok (.iadd, 1) := by decide +kernel
theorem dk_Md_copy_191 : decode mi_Md_copy.2.1 191 = .ok (.iload 6, 2) := by decide +kernel
theorem dk_Md_copy_193 : decode mi_Md_copy.2.1 193 = .ok (.iadd, 1) := by decide +kernel
theorem dk_Md_copy_194 : decode mi_Md_copy.2.1 194 = .ok (.laload, 1) := by decide +kernel
theorem dk_Md_copy_195 : decode mi_Md_copy.2.1 195 = .ok (.lastore, 1) := by decide +kernel
theorem dk_Md_copy_196 : decode mi_Md_copy.2.1 196 = .ok (.iinc 6 1, 3) := by decide +kernel
theorem dk_Md_copy_199 : decode mi_Md_copy.2.1 199 = .ok (.goto (-32), 3) := by decide +kernel
theorem dk_Md_copy_202 : decode mi_Md_copy.2.1 202 = .ok (.iconst 0, 1) := by decide +kernel
theorem dk_Md_copy_203 : decode mi_Md_copy.2.1 203 = .ok (.istore 6, 2) := by decide +kernel
theorem dk_Md_copy_205 : decode mi_Md_copy.2.1 205 = .ok (.iload 6, 2) := by decide +kernel
theorem dk_Md_copy_207 : decode mi_Md_copy.2.1 207 = .ok (.iload 5, 2) := by decide +kernel
theorem dk_Md_copy_209 : decode mi_Md_copy.2.1 209 = .ok (.if_icmp .ge 32, 3) := by decide +kernel
theorem dk_Md_copy_212 : decode mi_Md_copy.2.1 212 = .ok (.aload_n 0, 1) := by decide +kernel
theorem dk_Md_copy_213 : decode mi_Md_copy.2.1 213 = .ok (.getfield 56, 3) := by decide +kernel
theorem dk_Md_copy_216 : decode mi_Md_copy.2.1 216 = .ok (.sipush 160, 3) := by decide +kernel
theorem dk_Md_copy_219 : decode mi_Md_copy.2.1 219 = .ok (.iload_n 2, 1) := by decide +kernel
theorem dk_Md_copy_220 : decode mi_Md_copy.2.1 220 = .ok (.imul, 1) := by decide +kernel
theorem dk_Md_copy_221 : decode mi_Md_copy.2.1 221 = .ok (.iload 4, 2) := by decide +kernel
theorem dk_Md_copy_223 : decode mi_Md_copy.2.1 223 = .ok (.iadd, 1) := by decide +kernel
theorem dk_Md_copy_224 : decode mi_Md_copy.2.1 224 = .ok (.iload 6, 2) := by decide +kernel
theorem dk_Md_copy_226 : decode mi_Md_copy.2.1 226 = .ok (.iadd, 1) := by decide +kernel
theorem dk_Md_copy_227 : decode mi_Md_copy.2.1 227 = .ok (.aload_n 0, 1) := by decide +kernel
theorem dk_Md_copy_228 : decode mi_Md_copy.2.1 228 = .ok (.getfield 60, 3) := by decide +kernel
theorem dk_Md_copy_231 : decode mi_Md_copy.2.1 231 = .ok (.iload 6, 2) := by decide +kernel
theorem dk_Md_copy_233 : decode mi_Md_copy.2.1 233 = .ok (.laload, 1) := by decide +kernel
theorem dk_Md_copy_234 : decode mi_Md_copy.2.1 234 = .ok (.lastore, 1) := by decide +kernel
theorem dk_Md_copy_235 : decode mi_Md_copy.2.1 235 = .ok (.iinc 6 1, 3) := by decide +kernel
theorem dk_Md_copy_238 : decode mi_Md_copy.2.1 238 = .ok (.goto (-33), 3) := by decide +kernel
theorem dk_Md_copy_241 : decode mi_Md_copy.2.1 241 = .ok (.iconst 1, 1) := by decide +kernel
theorem dk_Md_copy_242 : decode mi_Md_copy.2.1 242 = .ok (.ireturn, 1) := by decide +kernel
def Md_copy_l167 (k_202 : Int32 → Int32 → Int32 → nm_St → Option (Int32 × nm_St)) : Nat → Int32 → Int32 → Int32 → Int32 → Int32 → Int32 → nm_St → Option (Int32 × nm_St)
  | 0, _, _, _, _, _, _, _ => none
  | n + 1, x1, x2, x3, x4, x5, x6, σ =>
    (if x5 ≤ x6 then
      k_202 x2 x4 x5 σ
    else
      (nm_g (nm_in ((((160 : Int32) * x1) + x3) + x6) 1280) (
      (nm_g (nm_in x6 160) (
      (nm_let (nm_pJ σ 83 x6.toNatClampNeg (σ.2 82 ((((160 : Int32) * x1) + x3) + x6).toNatClampNeg)) fun s32 =>
      (Md_copy_l167 k_202 n) x1 x2 x3 x4 x5 (x6 + (1 : Int32)) s32))))))
set_option maxRecDepth 100000 in
set_option maxHeartbeats 4000000 in
theorem r_Md_copy_l167 (X : nm_X) (F : nm_F) (hF0 : 1 ≤ nm_d F) (k_202 : Int32 → Int32 → Int32 → nm_St → Option (Int32 × nm_St)) (hk_202 : ∀ (x2 : Int32) (x4 : Int32) (x5 : Int32) (σ : nm_St), Rn X mi_Md_copy F (nm_Qf X F nm_wI) [(0, .ref 70), (2, .int x2), (4, .int x4), (5, .int x5)] [] 202 σ (k_202 x2 x4 x5 σ)) : ∀ (n : Nat) (x1 : Int32) (x2 : Int32) (x3 : Int32) (x4 : Int32) (x5 : Int32) (x6 : Int32) (σ : nm_St), Rn X mi_Md_copy F (nm_Qf X F nm_wI) [(0, .ref 70), (1, .int x1), (2, .int x2), (3, .int x3), (4, .int x4), (5, .int x5), (6, .int x6)] [] 167 σ (Md_copy_l167 k_202 n x1 x2 x3 x4 x5 x6 σ) := by
  intro n
  induction n with
  | zero =>
    intro x1 x2 x3 x4 x5 x6 σ
    exact rn_none
  | succ n ih =>
    intro x1 x2 x3 x4 x5 x6 σ
    unfold Md_copy_l167
    refine rn_iload (pc := 167) dk_Md_copy_167 rfl ?_
    refine rn_iload (pc := 169) dk_Md_copy_169 rfl ?_
    refine rn_icmp_ge (pc := 171) 202 dk_Md_copy_171 (by decide) (fun c29 => ?_) (fun c29 => ?_)
    · exact rn_sub (by rfl) (hk_202 x2 x4 x5 σ)
    · refine rn_aload_n (pc := 174) 0 dk_Md_copy_174 rfl rfl rfl ?_
      refine gf_Md_60 (pc := 175) rfl dk_Md_copy_175 ?_
      refine rn_iload (pc := 178) dk_Md_copy_178 rfl ?_
      refine rn_aload_n (pc := 180) 0 dk_Md_copy_180 rfl rfl rfl ?_
      refine gf_Md_56 (pc := 181) rfl dk_Md_copy_181 ?_
      refine rn_sipush (pc := 184) (160 : Int32) dk_Md_copy_184 cn_s_160 ?_
      refine rn_iload_n (pc := 187) 1 dk_Md_copy_187 rfl rfl ?_
      refine rn_imul (pc := 188) dk_Md_copy_188 ?_
      refine rn_iload_n (pc := 189) 3 dk_Md_copy_189 rfl rfl ?_
      refine rn_iadd (pc := 190) dk_Md_copy_190 ?_
      refine rn_iload (pc := 191) dk_Md_copy_191 rfl ?_
      refine rn_iadd (pc := 193) dk_Md_copy_193 ?_
      refine rn_laload (pc := 194) rfl dk_Md_copy_194 (fun g30 => ?_)
      refine rn_lastore (pc := 195) rfl dk_Md_copy_195 (fun g31 => ?_)
      refine rn_lets (fun s32 => ?_)
      refine rn_iinc (pc := 196) (1 : Int32) dk_Md_copy_196 cn_i_1 rfl rfl rfl ?_
      refine rn_goto (pc := 199) 167 dk_Md_copy_199 (by decide) ?_
      exact rn_sub (by rfl) (ih x1 x2 x3 x4 x5 (x6 + (1 : Int32)) s32)
def Md_copy_l205 (k_241 : nm_St → Option (Int32 × nm_St)) : Nat → Int32 → Int32 → Int32 → Int32 → nm_St → Option (Int32 × nm_St)
  | 0, _, _, _, _, _ => none
  | n + 1, x2, x4, x5, x6, σ =>
    (if x5 ≤ x6 then
      k_241 σ
    else
      (nm_g (nm_in x6 160) (
      (nm_g (nm_in ((((160 : Int32) * x2) + x4) + x6) 1280) (
      (nm_let (nm_pJ σ 82 ((((160 : Int32) * x2) + x4) + x6).toNatClampNeg (σ.2 83 x6.toNatClampNeg)) fun s40 =>
      (Md_copy_l205 k_241 n) x2 x4 x5 (x6 + (1 : Int32)) s40))))))
set_option maxRecDepth 100000 in
set_option maxHeartbeats 4000000 in
theorem r_Md_copy_l205 (X : nm_X) (F : nm_F) (hF0 : 1 ≤ nm_d F) (k_241 : nm_St → Option (Int32 × nm_St)) (hk_241 : ∀ (σ : nm_St), Rn X mi_Md_copy F (nm_Qf X F nm_wI) [] [] 241 σ (k_241 σ)) : ∀ (n : Nat) (x2 : Int32) (x4 : Int32) (x5 : Int32) (x6 : Int32) (σ : nm_St), Rn X mi_Md_copy F (nm_Qf X F nm_wI) [(0, .ref 70), (2, .int x2), (4, .int x4), (5, .int x5), (6, .int x6)] [] 205 σ (Md_copy_l205 k_241 n x2 x4 x5 x6 σ) := by
  intro n
  induction n with
  | zero =>
    intro x2 x4 x5 x6 σ
    exact rn_none
  | succ n ih =>
    intro x2 x4 x5 x6 σ
    unfold Md_copy_l205
    refine rn_iload (pc := 205) dk_Md_copy_205 rfl ?_
    refine rn_iload (pc := 207) dk_Md_copy_207 rfl ?_
    refine rn_icmp_ge (pc := 209) 241 dk_Md_copy_209 (by decide) (fun c37 => ?_) (fun c37 => ?_)
    · exact rn_sub (by rfl) (hk_241 σ)
    · refine rn_aload_n (pc := 212) 0 dk_Md_copy_212 rfl rfl rfl ?_
      refine gf_Md_56 (pc := 213) rfl dk_Md_copy_213 ?_
      refine rn_sipush (pc := 216) (160 : Int32) dk_Md_copy_216 cn_s_160 ?_
      refine rn_iload_n (pc := 219) 2 dk_Md_copy_219 rfl rfl ?_
      refine rn_imul (pc := 220) dk_Md_copy_220 ?_
      refine rn_iload (pc := 221) dk_Md_copy_221 rfl ?_
      refine rn_iadd (pc := 223) dk_Md_copy_223 ?_
      refine rn_iload (pc := 224) dk_Md_copy_224 rfl ?_
      refine rn_iadd (pc := 226) dk_Md_copy_226 ?_
      refine rn_aload_n (pc := 227) 0 dk_Md_copy_227 rfl rfl rfl ?_
      refine gf_Md_60 (pc := 228) rfl dk_Md_copy_228 ?_
      refine rn_iload (pc := 231) dk_Md_copy_231 rfl ?_
      refine rn_laload (pc := 233) rfl dk_Md_copy_233 (fun g38 => ?_)
      refine rn_lastore (pc := 234) rfl dk_Md_copy_234 (fun g39 => ?_)
      refine rn_lets (fun s40 => ?_)
      refine rn_iinc (pc := 235) (1 : Int32) dk_Md_copy_235 cn_i_1 rfl rfl rfl ?_
      refine rn_goto (pc := 238) 205 dk_Md_copy_238 (by decide) ?_
      exact rn_sub (by rfl) (ih x2 x4 x5 (x6 + (1 : Int32)) s40)
def Md_copy_j84 (x1 : Int32) (x2 : Int32) (x3 : Int32) (x4 : Int32) (x5 : Int32) (σ : nm_St) : Option (Int32 × nm_St) :=
  (nm_g (nm_in x1 8) (
  (if (σ.1 78 x1.toNatClampNeg) = 0 then
    ((Md_no (-3 : Int32) σ).bind fun q16 =>
    some (q16.1, q16.2))
  else
    (nm_g (nm_in x2 8) (
    (if (σ.1 78 x2.toNatClampNeg) = 0 then
      ((Md_no (-3 : Int32) σ).bind fun q44 =>
      some (q44.1, q44.2))
    else
      (if 0 ≤ x5 then
        (if x3 < 0 then
          ((Md_no (-5 : Int32) σ).bind fun q21 =>
          some (q21.1, q21.2))
        else
          (if x4 < 0 then
            ((Md_no (-5 : Int32) σ).bind fun q23 =>
            some (q23.1, q23.2))
          else
            (nm_g (nm_in x1 8) (
            (if ((σ.1 80 x1.toNatClampNeg) - x5) < x3 then
              ((Md_no (-5 : Int32) σ).bind fun q26 =>
              some (q26.1, q26.2))
            else
              (nm_g (nm_in x2 8) (
              (if x4 ≤ ((σ.1 80 x2.toNatClampNeg) - x5) then
                Md_copy_l167 (fun (e34 : Int32) (e35 : Int32) (e36 : Int32) (s33 : nm_St) =>
                  Md_copy_l205 (fun (s41 : nm_St) =>
                    some ((1 : Int32), s41)) 400 e34 e35 e36 (0 : Int32) s33) 400 x1 x2 x3 x4 x5 (0 : Int32) σ
              else
                ((Md_no (-5 : Int32) σ).bind fun q42 =>
                some (q42.1, q42.2))))))))))
      else
        ((Md_no (-4 : Int32) σ).bind fun q43 =>
        some (q43.1, q43.2)))))))))
set_option maxRecDepth 100000 in
set_option maxHeartbeats 4000000 in
theorem r_Md_copy_j84 (X : nm_X) (F : nm_F) (hF0 : 1 ≤ nm_d F) (x1 : Int32) (x2 : Int32) (x3 : Int32) (x4 : Int32) (x5 : Int32) (σ : nm_St) : Rn X mi_Md_copy F (nm_Qf X F nm_wI) [(0, .ref 70), (1, .int x1), (2, .int x2), (3, .int x3), (4, .int x4), (5, .int x5)] [] 84 σ (Md_copy_j84 x1 x2 x3 x4 x5 σ) := by
  unfold Md_copy_j84
  refine rn_aload_n (pc := 84) 0 dk_Md_copy_84 rfl rfl rfl ?_
  refine gf_Md_44 (pc := 85) rfl dk_Md_copy_85 ?_
  refine rn_iload_n (pc := 88) 1 dk_Md_copy_88 rfl rfl ?_
  refine rn_iaload (pc := 89) rfl dk_Md_copy_89 (fun g14 => ?_)
  refine rn_if_eq (pc := 90) 102 dk_Md_copy_90 (by decide) (fun c15 => ?_) (fun c15 => ?_)
  · refine rn_aload_n (pc := 102) 0 dk_Md_copy_102 rfl rfl rfl ?_
    refine rn_bipush (pc := 103) (-3 : Int32) dk_Md_copy_103 cn_b_m3 ?_
    refine cl_Md_97 (pc := 105) (As := [.int (-3 : Int32)]) (st := []) rfl (ct_Md_no X (-3 : Int32) σ) (Nat.le_trans (Nat.le_of_ble_eq_true rfl) hF0) rfl rfl (Nat.le_of_ble_eq_true rfl) dk_Md_copy_105 (fun q16 => ?_)
    exact rn_iret rfl dk_Md_copy_108
  · refine rn_aload_n (pc := 93) 0 dk_Md_copy_93 rfl rfl rfl ?_
    refine gf_Md_44 (pc := 94) rfl dk_Md_copy_94 ?_
    refine rn_iload_n (pc := 97) 2 dk_Md_copy_97 rfl rfl ?_
    refine rn_iaload (pc := 98) rfl dk_Md_copy_98 (fun g17 => ?_)
    refine rn_if_ne (pc := 99) 109 dk_Md_copy_99 (by decide) (fun c18 => ?_) (fun c18 => ?_)
    · refine rn_iload (pc := 109) dk_Md_copy_109 rfl ?_
      refine rn_if_ge (pc := 111) 121 dk_Md_copy_111 (by decide) (fun c19 => ?_) (fun c19 => ?_)
      · refine rn_iload_n (pc := 121) 3 dk_Md_copy_121 rfl rfl ?_
        refine rn_if_lt (pc := 122) 157 dk_Md_copy_122 (by decide) (fun c20 => ?_) (fun c20 => ?_)
        · refine rn_aload_n (pc := 157) 0 dk_Md_copy_157 rfl rfl rfl ?_
          refine rn_bipush (pc := 158) (-5 : Int32) dk_Md_copy_158 cn_b_m5 ?_
          refine cl_Md_97 (pc := 160) (As := [.int (-5 : Int32)]) (st := []) rfl (ct_Md_no X (-5 : Int32) σ) (Nat.le_trans (Nat.le_of_ble_eq_true rfl) hF0) rfl rfl (Nat.le_of_ble_eq_true rfl) dk_Md_copy_160 (fun q21 => ?_)
          exact rn_iret rfl dk_Md_copy_163
        · refine rn_iload (pc := 125) dk_Md_copy_125 rfl ?_
          refine rn_if_lt (pc := 127) 157 dk_Md_copy_127 (by decide) (fun c22 => ?_) (fun c22 => ?_)
          · refine rn_aload_n (pc := 157) 0 dk_Md_copy_157 rfl rfl rfl ?_
            refine rn_bipush (pc := 158) (-5 : Int32) dk_Md_copy_158 cn_b_m5 ?_
            refine cl_Md_97 (pc := 160) (As := [.int (-5 : Int32)]) (st := []) rfl (ct_Md_no X (-5 : Int32) σ) (Nat.le_trans (Nat.le_of_ble_eq_true rfl) hF0) rfl rfl (Nat.le_of_ble_eq_true rfl) dk_Md_copy_160 (fun q23 => ?_)
            exact rn_iret rfl dk_Md_copy_163
          · refine rn_iload_n (pc := 130) 3 dk_Md_copy_130 rfl rfl ?_
            refine rn_aload_n (pc := 131) 0 dk_Md_copy_131 rfl rfl rfl ?_
            refine gf_Md_50 (pc := 132) rfl dk_Md_copy_132 ?_
            refine rn_iload_n (pc := 135) 1 dk_Md_copy_135 rfl rfl ?_
            refine rn_iaload (pc := 136) rfl dk_Md_copy_136 (fun g24 => ?_)
            refine rn_iload (pc := 137) dk_Md_copy_137 rfl ?_
            refine rn_isub (pc := 139) dk_Md_copy_139 ?_
            refine rn_icmp_gt (pc := 140) 157 dk_Md_copy_140 (by decide) (fun c25 => ?_) (fun c25 => ?_)
            · refine rn_aload_n (pc := 157) 0 dk_Md_copy_157 rfl rfl rfl ?_
              refine rn_bipush (pc := 158) (-5 : Int32) dk_Md_copy_158 cn_b_m5 ?_
              refine cl_Md_97 (pc := 160) (As := [.int (-5 : Int32)]) (st := []) rfl (ct_Md_no X (-5 : Int32) σ) (Nat.le_trans (Nat.le_of_ble_eq_true rfl) hF0) rfl rfl (Nat.le_of_ble_eq_true rfl) dk_Md_copy_160 (fun q26 => ?_)
              exact rn_iret rfl dk_Md_copy_163
            · refine rn_iload (pc := 143) dk_Md_copy_143 rfl ?_
              refine rn_aload_n (pc := 145) 0 dk_Md_copy_145 rfl rfl rfl ?_
              refine gf_Md_50 (pc := 146) rfl dk_Md_copy_146 ?_
              refine rn_iload_n (pc := 149) 2 dk_Md_copy_149 rfl rfl ?_
              refine rn_iaload (pc := 150) rfl dk_Md_copy_150 (fun g27 => ?_)
              refine rn_iload (pc := 151) dk_Md_copy_151 rfl ?_
              refine rn_isub (pc := 153) dk_Md_copy_153 ?_
              refine rn_icmp_le (pc := 154) 164 dk_Md_copy_154 (by decide) (fun c28 => ?_) (fun c28 => ?_)
              · refine rn_iconst (pc := 164) (0 : Int32) dk_Md_copy_164 cn_i_0 ?_
                refine rn_istore (pc := 165) dk_Md_copy_165 rfl rfl ?_
                refine rn_sub (by rfl) (r_Md_copy_l167 X F hF0 _ (fun e34 e35 e36 s33 => ?_) 400 x1 x2 x3 x4 x5 (0 : Int32) σ)
                refine rn_iconst (pc := 202) (0 : Int32) dk_Md_copy_202 cn_i_0 ?_
                refine rn_istore (pc := 203) dk_Md_copy_203 rfl rfl ?_
                refine rn_sub (by rfl) (r_Md_copy_l205 X F hF0 _ (fun s41 => ?_) 400 e34 e35 e36 (0 : Int32) s33)
                refine rn_iconst (pc := 241) (1 : Int32) dk_Md_copy_241 cn_i_1 ?_
                exact rn_iret rfl dk_Md_copy_242
              · refine rn_aload_n (pc := 157) 0 dk_Md_copy_157 rfl rfl rfl ?_
                refine rn_bipush (pc := 158) (-5 : Int32) dk_Md_copy_158 cn_b_m5 ?_
                refine cl_Md_97 (pc := 160) (As := [.int (-5 : Int32)]) (st := []) rfl (ct_Md_no X (-5 : Int32) σ) (Nat.le_trans (Nat.le_of_ble_eq_true rfl) hF0) rfl rfl (Nat.le_of_ble_eq_true rfl) dk_Md_copy_160 (fun q42 => ?_)
                exact rn_iret rfl dk_Md_copy_163
      · refine rn_aload_n (pc := 114) 0 dk_Md_copy_114 rfl rfl rfl ?_
        refine rn_bipush (pc := 115) (-4 : Int32) dk_Md_copy_115 cn_b_m4 ?_
        refine cl_Md_97 (pc := 117) (As := [.int (-4 : Int32)]) (st := []) rfl (ct_Md_no X (-4 : Int32) σ) (Nat.le_trans (Nat.le_of_ble_eq_true rfl) hF0) rfl rfl (Nat.le_of_ble_eq_true rfl) dk_Md_copy_117 (fun q43 => ?_)
        exact rn_iret rfl dk_Md_copy_120
    · refine rn_aload_n (pc := 102) 0 dk_Md_copy_102 rfl rfl rfl ?_
      refine rn_bipush (pc := 103) (-3 : Int32) dk_Md_copy_103 cn_b_m3 ?_
      refine cl_Md_97 (pc := 105) (As := [.int (-3 : Int32)]) (st := []) rfl (ct_Md_no X (-3 : Int32) σ) (Nat.le_trans (Nat.le_of_ble_eq_true rfl) hF0) rfl rfl (Nat.le_of_ble_eq_true rfl) dk_Md_copy_105 (fun q44 => ?_)
      exact rn_iret rfl dk_Md_copy_108
def Md_copy (p1 : Int32) (p2 : Int32) (p3 : Int32) (p4 : Int32) (p5 : Int32) (σ : nm_St) : Option (Int32 × nm_St) :=
  ((Md_isShelf p1 σ).bind fun q1 =>
  (if q1.1 = 0 then
    ((Md_no (-1 : Int32) q1.2).bind fun q3 =>
    some (q3.1, q3.2))
  else
    ((Md_isShelf p2 q1.2).bind fun q4 =>
    (if q4.1 = 0 then
      ((Md_no (-1 : Int32) q4.2).bind fun q51 =>
      some (q51.1, q51.2))
    else
      (nm_g (nm_in p1 8) (
      (if (q4.2.1 78 p1.toNatClampNeg) = (2 : Int32) then
        ((Md_no (-2 : Int32) q4.2).bind fun q8 =>
        some (q8.1, q8.2))
      else
        (nm_g (nm_in p2 8) (
        (if (q4.2.1 78 p2.toNatClampNeg) = (2 : Int32) then
          ((Md_no (-2 : Int32) q4.2).bind fun q11 =>
          some (q11.1, q11.2))
        else
          (nm_g (nm_in p1 8) (
          (if (q4.2.1 78 p1.toNatClampNeg) = (1 : Int32) then
            (nm_g (nm_in p2 8) (
            (if (q4.2.1 78 p2.toNatClampNeg) = (1 : Int32) then
              (nm_g (nm_in p1 8) (
              (nm_g (nm_in p2 8) (
              (if (q4.2.1 79 p1.toNatClampNeg) = (q4.2.1 79 p2.toNatClampNeg) then
                Md_copy_j84 p1 p2 p3 p4 p5 q4.2
              else
                ((Md_no (-2 : Int32) q4.2).bind fun q50 =>
                some (q50.1, q50.2)))))))
            else
              Md_copy_j84 p1 p2 p3 p4 p5 q4.2)))
          else
            Md_copy_j84 p1 p2 p3 p4 p5 q4.2)))))))))))))
set_option maxRecDepth 100000 in
set_option maxHeartbeats 4000000 in
theorem ct_Md_copy (X : nm_X) (p1 : Int32) (p2 : Int32) (p3 : Int32) (p4 : Int32) (p5 : Int32) (σ : nm_St) : Ct X mi_Md_copy 1 nm_wI [.ref 70, .int p1, .int p2, .int p3, .int p4, .int p5] σ (Md_copy p1 p2 p3 p4 p5 σ) := by
  refine Ct.of (by decide +kernel) rfl (fun F hF0 => ?_)
  unfold Md_copy
  refine rn_aload_n (pc := 0) 0 dk_Md_copy_0 rfl rfl rfl ?_
  refine rn_iload_n (pc := 1) 1 dk_Md_copy_1 rfl rfl ?_
  refine cl_Md_93 (pc := 2) (As := [.int p1]) (st := []) rfl (ct_Md_isShelf X p1 σ) (Nat.le_trans (Nat.le_of_ble_eq_true rfl) hF0) rfl rfl (Nat.le_of_ble_eq_true rfl) dk_Md_copy_2 (fun q1 => ?_)
  refine rn_if_eq (pc := 5) 16 dk_Md_copy_5 (by decide) (fun c2 => ?_) (fun c2 => ?_)
  · refine rn_aload_n (pc := 16) 0 dk_Md_copy_16 rfl rfl rfl ?_
    refine rn_iconst (pc := 17) (-1 : Int32) dk_Md_copy_17 cn_i_m1 ?_
    refine cl_Md_97 (pc := 18) (As := [.int (-1 : Int32)]) (st := []) rfl (ct_Md_no X (-1 : Int32) q1.2) (Nat.le_trans (Nat.le_of_ble_eq_true rfl) hF0) rfl rfl (Nat.le_of_ble_eq_true rfl) dk_Md_copy_18 (fun q3 => ?_)
    exact rn_iret rfl dk_Md_copy_21
  · refine rn_aload_n (pc := 8) 0 dk_Md_copy_8 rfl rfl rfl ?_
    refine rn_iload_n (pc := 9) 2 dk_Md_copy_9 rfl rfl ?_
    refine cl_Md_93 (pc := 10) (As := [.int p2]) (st := []) rfl (ct_Md_isShelf X p2 q1.2) (Nat.le_trans (Nat.le_of_ble_eq_true rfl) hF0) rfl rfl (Nat.le_of_ble_eq_true rfl) dk_Md_copy_10 (fun q4 => ?_)
    refine rn_if_ne (pc := 13) 22 dk_Md_copy_13 (by decide) (fun c5 => ?_) (fun c5 => ?_)
    · refine rn_aload_n (pc := 22) 0 dk_Md_copy_22 rfl rfl rfl ?_
      refine gf_Md_44 (pc := 23) rfl dk_Md_copy_23 ?_
      refine rn_iload_n (pc := 26) 1 dk_Md_copy_26 rfl rfl ?_
      refine rn_iaload (pc := 27) rfl dk_Md_copy_27 (fun g6 => ?_)
      refine rn_iconst (pc := 28) (2 : Int32) dk_Md_copy_28 cn_i_2 ?_
      refine rn_icmp_eq (pc := 29) 77 dk_Md_copy_29 (by decide) (fun c7 => ?_) (fun c7 => ?_)
      · refine rn_aload_n (pc := 77) 0 dk_Md_copy_77 rfl rfl rfl ?_
        refine rn_bipush (pc := 78) (-2 : Int32) dk_Md_copy_78 cn_b_m2 ?_
        refine cl_Md_97 (pc := 80) (As := [.int (-2 : Int32)]) (st := []) rfl (ct_Md_no X (-2 : Int32) q4.2) (Nat.le_trans (Nat.le_of_ble_eq_true rfl) hF0) rfl rfl (Nat.le_of_ble_eq_true rfl) dk_Md_copy_80 (fun q8 => ?_)
        exact rn_iret rfl dk_Md_copy_83
      · refine rn_aload_n (pc := 32) 0 dk_Md_copy_32 rfl rfl rfl ?_
        refine gf_Md_44 (pc := 33) rfl dk_Md_copy_33 ?_
        refine rn_iload_n (pc := 36) 2 dk_Md_copy_36 rfl rfl ?_
        refine rn_iaload (pc := 37) rfl dk_Md_copy_37 (fun g9 => ?_)
        refine rn_iconst (pc := 38) (2 : Int32) dk_Md_copy_38 cn_i_2 ?_
        refine rn_icmp_eq (pc := 39) 77 dk_Md_copy_39 (by decide) (fun c10 => ?_) (fun c10 => ?_)
        · refine rn_aload_n (pc := 77) 0 dk_Md_copy_77 rfl rfl rfl ?_
          refine rn_bipush (pc := 78) (-2 : Int32) dk_Md_copy_78 cn_b_m2 ?_
          refine cl_Md_97 (pc := 80) (As := [.int (-2 : Int32)]) (st := []) rfl (ct_Md_no X (-2 : Int32) q4.2) (Nat.le_trans (Nat.le_of_ble_eq_true rfl) hF0) rfl rfl (Nat.le_of_ble_eq_true rfl) dk_Md_copy_80 (fun q11 => ?_)
          exact rn_iret rfl dk_Md_copy_83
        · refine rn_aload_n (pc := 42) 0 dk_Md_copy_42 rfl rfl rfl ?_
          refine gf_Md_44 (pc := 43) rfl dk_Md_copy_43 ?_
          refine rn_iload_n (pc := 46) 1 dk_Md_copy_46 rfl rfl ?_
          refine rn_iaload (pc := 47) rfl dk_Md_copy_47 (fun g12 => ?_)
          refine rn_iconst (pc := 48) (1 : Int32) dk_Md_copy_48 cn_i_1 ?_
          refine rn_icmp_ne (pc := 49) 84 dk_Md_copy_49 (by decide) (fun c13 => ?_) (fun c13 => ?_)
          · exact rn_sub (by rfl) (r_Md_copy_j84 X F hF0 p1 p2 p3 p4 p5 q4.2)
          · refine rn_aload_n (pc := 52) 0 dk_Md_copy_52 rfl rfl rfl ?_
            refine gf_Md_44 (pc := 53) rfl dk_Md_copy_53 ?_
            refine rn_iload_n (pc := 56) 2 dk_Md_copy_56 rfl rfl ?_
            refine rn_iaload (pc := 57) rfl dk_Md_copy_57 (fun g45 => ?_)
            refine rn_iconst (pc := 58) (1 : Int32) dk_Md_copy_58 cn_i_1 ?_
            refine rn_icmp_ne (pc := 59) 84 dk_Md_copy_59 (by decide) (fun c46 => ?_) (fun c46 => ?_)
            · exact rn_sub (by rfl) (r_Md_copy_j84 X F hF0 p1 p2 p3 p4 p5 q4.2)
            · refine rn_aload_n (pc := 62) 0 dk_Md_copy_62 rfl rfl rfl ?_
              refine gf_Md_47 (pc := 63) rfl dk_Md_copy_63 ?_
              refine rn_iload_n (pc := 66) 1 dk_Md_copy_66 rfl rfl ?_
              refine rn_iaload (pc := 67) rfl dk_Md_copy_67 (fun g47 => ?_)
              refine rn_aload_n (pc := 68) 0 dk_Md_copy_68 rfl rfl rfl ?_
              refine gf_Md_47 (pc := 69) rfl dk_Md_copy_69 ?_
              refine rn_iload_n (pc := 72) 2 dk_Md_copy_72 rfl rfl ?_
              refine rn_iaload (pc := 73) rfl dk_Md_copy_73 (fun g48 => ?_)
              refine rn_icmp_eq (pc := 74) 84 dk_Md_copy_74 (by decide) (fun c49 => ?_) (fun c49 => ?_)
              · exact rn_sub (by rfl) (r_Md_copy_j84 X F hF0 p1 p2 p3 p4 p5 q4.2)
              · refine rn_aload_n (pc := 77) 0 dk_Md_copy_77 rfl rfl rfl ?_
                refine rn_bipush (pc := 78) (-2 : Int32) dk_Md_copy_78 cn_b_m2 ?_
                refine cl_Md_97 (pc := 80) (As := [.int (-2 : Int32)]) (st := []) rfl (ct_Md_no X (-2 : Int32) q4.2) (Nat.le_trans (Nat.le_of_ble_eq_true rfl) hF0) rfl rfl (Nat.le_of_ble_eq_true rfl) dk_Md_copy_80 (fun q50 => ?_)
                exact rn_iret rfl dk_Md_copy_83
    · refine rn_aload_n (pc := 16) 0 dk_Md_copy_16 rfl rfl rfl ?_
      refine rn_iconst (pc := 17) (-1 : Int32) dk_Md_copy_17 cn_i_m1 ?_
      refine cl_Md_97 (pc := 18) (As := [.int (-1 : Int32)]) (st := []) rfl (ct_Md_no X (-1 : Int32) q4.2) (Nat.le_trans (Nat.le_of_ble_eq_true rfl) hF0) rfl rfl (Nat.le_of_ble_eq_true rfl) dk_Md_copy_18 (fun q51 => ?_)
      exact rn_iret rfl dk_Md_copy_21
theorem dk_Md_element_0 : decode mi_Md_element.2.1 0 = .ok (.aload_n 0, 1) := by decide +kernel
theorem dk_Md_element_1 : decode mi_Md_element.2.1 1 = .ok (.iload_n 1, 1) := by decide +kernel
theorem dk_Md_element_2 : decode mi_Md_element.2.1 2 = .ok (.invokevirtual 93, 3) := by decide +kernel
theorem dk_Md_element_5 : decode mi_Md_element.2.1 5 = .ok (.ifCond .eq 42, 3) := by decide +kernel
theorem dk_Md_element_8 : decode mi_Md_element.2.1 8 = .ok (.aload_n 0, 1) := by decide +kernel
theorem dk_Md_element_9 : decode mi_Md_element.2.1 9 = .ok (.getfield 44, 3) := by decide +kernel
theorem dk_Md_element_12 : decode mi_Md_element.2.1 12 = .ok (.iload_n 1, 1) := by decide +kernel
theorem dk_Md_element_13 : decode mi_Md_element.2.1 13 = .ok (.iaload, 1) := by decide +kernel
theorem dk_Md_element_14 : decode mi_Md_element.2.1 14 = .ok (.iconst 1, 1) := by decide +kernel
theorem dk_Md_element_15 : decode mi_Md_element.2.1 15 = .ok (.if_icmp .ne 32, 3) := by decide +kernel
theorem dk_Md_element_18 : decode mi_Md_element.2.1 18 = .ok (.iload_n 2, 1) := by decide +kernel
theorem dk_Md_element_19 : decode mi_Md_element.2.1 19 = .ok (.ifCond .lt 28, 3) := by decide +kernel
theorem dk_Md_element_22 : decode mi_Md_element.2.1 22 = .ok (.iload_n 2, 1) := by decide +kernel
theorem dk_Md_element_23 : decode mi_Md_element.2.1 23 = .ok (.aload_n 0, 1) := by decide +kernel
theorem dk_Md_element_24 : decode mi_Md_element.2.1 24 = .ok (.getfield 50, 3) := by decide +kernel
theorem dk_Md_element_27 : decode mi_Md_element.2.1 27 = .ok (.iload_n 1, 1) := by decide +kernel
theorem dk_Md_element_28 : decode mi_Md_element.2.1 28 = .ok (.iaload, 1) := by decide +kernel
theorem dk_Md_element_29 : decode mi_Md_element.2.1 29 = .ok (.if_icmp .ge 18, 3) := by decide +kernel
theorem dk_Md_element_32 : decode mi_Md_element.2.1 32 = .ok (.aload_n 0, 1) := by decide +kernel
theorem dk_Md_element_33 : decode mi_Md_element.2.1 33 = .ok (.getfield 56, 3) := by decide +kernel
theorem dk_Md_element_36 : decode mi_Md_element.2.1 36 = .ok (.sipush 160, 3) := by decide +kernel
theorem dk_Md_element_39 : decode mi_Md_element.2.1 39 = .ok (.iload_n 1, 1) := by decide +kernel
theorem dk_Md_element_40 : decode mi_Md_element.2.1 40 = .ok (.imul, 1) := by decide +kernel
theorem dk_Md_element_41 : decode mi_Md_element.2.1 41 = .ok (.iload_n 2, 1) := by decide +kernel
theorem dk_Md_element_42 : decode mi_Md_element.2.1 42 = .ok (.iadd, 1) := by decide +kernel
theorem dk_Md_element_43 : decode mi_Md_element.2.1 43 = .ok (.laload, 1) := by decide +kernel
theorem dk_Md_element_44 : decode mi_Md_element.2.1 44 = .ok (.goto 4, 3) := by decide +kernel
theorem dk_Md_element_47 : decode mi_Md_element.2.1 47 = .ok (.lconst 0, 1) := by decide +kernel
theorem dk_Md_element_48 : decode mi_Md_element.2.1 48 = .ok (.lreturn, 1) := by decide +kernel
def Md_element (p1 : Int32) (p2 : Int32) (σ : nm_St) : Option (Int64 × nm_St) :=
  ((Md_isShelf p1 σ).bind fun q1 =>
  (if q1.1 = 0 then
    some ((0 : Int64), q1.2)
  else
    (nm_g (nm_in p1 8) (
    (if (q1.2.1 78 p1.toNatClampNeg) = (1 : Int32) then
      (if p2 < 0 then
        some ((0 : Int64), q1.2)
      else
        (nm_g (nm_in p1 8) (
        (if (q1.2.1 80 p1.toNatClampNeg) ≤ p2 then
          some ((0 : Int64), q1.2)
        else
          (nm_g (nm_in (((160 : Int32) * p1) + p2) 1280) (
          some ((q1.2.2 82 (((160 : Int32) * p1) + p2).toNatClampNeg), q1.2)))))))
    else
      some ((0 : Int64), q1.2))))))
set_option maxRecDepth 100000 in
set_option maxHeartbeats 4000000 in
theorem ct_Md_element (X : nm_X) (p1 : Int32) (p2 : Int32) (σ : nm_St) : Ct X mi_Md_element 1 nm_wJ [.ref 70, .int p1, .int p2] σ (Md_element p1 p2 σ) := by
  refine Ct.of (by decide +kernel) rfl (fun F hF0 => ?_)
  unfold Md_element
  refine rn_aload_n (pc := 0) 0 dk_Md_element_0 rfl rfl rfl ?_
  refine rn_iload_n (pc := 1) 1 dk_Md_element_1 rfl rfl ?_
  refine cl_Md_93 (pc := 2) (As := [.int p1]) (st := []) rfl (ct_Md_isShelf X p1 σ) (Nat.le_trans (Nat.le_of_ble_eq_true rfl) hF0) rfl rfl (Nat.le_of_ble_eq_true rfl) dk_Md_element_2 (fun q1 => ?_)
  refine rn_if_eq (pc := 5) 47 dk_Md_element_5 (by decide) (fun c2 => ?_) (fun c2 => ?_)
  · refine rn_lconst (pc := 47) (0 : Int64) dk_Md_element_47 rfl ?_
    exact rn_lret rfl dk_Md_element_48
  · refine rn_aload_n (pc := 8) 0 dk_Md_element_8 rfl rfl rfl ?_
    refine gf_Md_44 (pc := 9) rfl dk_Md_element_9 ?_
    refine rn_iload_n (pc := 12) 1 dk_Md_element_12 rfl rfl ?_
    refine rn_iaload (pc := 13) rfl dk_Md_element_13 (fun g3 => ?_)
    refine rn_iconst (pc := 14) (1 : Int32) dk_Md_element_14 cn_i_1 ?_
    refine rn_icmp_ne (pc := 15) 47 dk_Md_element_15 (by decide) (fun c4 => ?_) (fun c4 => ?_)
    · refine rn_lconst (pc := 47) (0 : Int64) dk_Md_element_47 rfl ?_
      exact rn_lret rfl dk_Md_element_48
    · refine rn_iload_n (pc := 18) 2 dk_Md_element_18 rfl rfl ?_
      refine rn_if_lt (pc := 19) 47 dk_Md_element_19 (by decide) (fun c5 => ?_) (fun c5 => ?_)
      · refine rn_lconst (pc := 47) (0 : Int64) dk_Md_element_47 rfl ?_
        exact rn_lret rfl dk_Md_element_48
      · refine rn_iload_n (pc := 22) 2 dk_Md_element_22 rfl rfl ?_
        refine rn_aload_n (pc := 23) 0 dk_Md_element_23 rfl rfl rfl ?_
        refine gf_Md_50 (pc := 24) rfl dk_Md_element_24 ?_
        refine rn_iload_n (pc := 27) 1 dk_Md_element_27 rfl rfl ?_
        refine rn_iaload (pc := 28) rfl dk_Md_element_28 (fun g6 => ?_)
        refine rn_icmp_ge (pc := 29) 47 dk_Md_element_29 (by decide) (fun c7 => ?_) (fun c7 => ?_)
        · refine rn_lconst (pc := 47) (0 : Int64) dk_Md_element_47 rfl ?_
          exact rn_lret rfl dk_Md_element_48
        · refine rn_aload_n (pc := 32) 0 dk_Md_element_32 rfl rfl rfl ?_
          refine gf_Md_56 (pc := 33) rfl dk_Md_element_33 ?_
          refine rn_sipush (pc := 36) (160 : Int32) dk_Md_element_36 cn_s_160 ?_
          refine rn_iload_n (pc := 39) 1 dk_Md_element_39 rfl rfl ?_
          refine rn_imul (pc := 40) dk_Md_element_40 ?_
          refine rn_iload_n (pc := 41) 2 dk_Md_element_41 rfl rfl ?_
          refine rn_iadd (pc := 42) dk_Md_element_42 ?_
          refine rn_laload (pc := 43) rfl dk_Md_element_43 (fun g8 => ?_)
          refine rn_goto (pc := 44) 48 dk_Md_element_44 (by decide) ?_
          exact rn_lret rfl dk_Md_element_48
theorem dk_Md_isMaker_0 : decode mi_Md_isMaker.2.1 0 = .ok (.iload_n 1, 1) := by decide +kernel
theorem dk_Md_isMaker_1 : decode mi_Md_isMaker.2.1 1 = .ok (.ifCond .lt 15, 3) := by decide +kernel
theorem dk_Md_isMaker_4 : decode mi_Md_isMaker.2.1 4 = .ok (.iload_n 1, 1) := by decide +kernel
theorem dk_Md_isMaker_5 : decode mi_Md_isMaker.2.1 5 = .ok (.aload_n 0, 1) := by decide +kernel
theorem dk_Md_isMaker_6 : decode mi_Md_isMaker.2.1 6 = .ok (.getfield 90, 3) := by decide +kernel
theorem dk_Md_isMaker_9 : decode mi_Md_isMaker.2.1 9 = .ok (.if_icmp .ge 7, 3) := by decide +kernel
theorem dk_Md_isMaker_12 : decode mi_Md_isMaker.2.1 12 = .ok (.iconst 1, 1) := by decide +kernel
theorem dk_Md_isMaker_13 : decode mi_Md_isMaker.2.1 13 = .ok (.goto 4, 3) := by decide +kernel
theorem dk_Md_isMaker_16 : decode mi_Md_isMaker.2.1 16 = .ok (.iconst 0, 1) := by decide +kernel
theorem dk_Md_isMaker_17 : decode mi_Md_isMaker.2.1 17 = .ok (.ireturn, 1) := by decide +kernel
def Md_isMaker (p1 : Int32) (σ : nm_St) : Option (Int32 × nm_St) :=
  (if p1 < 0 then
    some ((0 : Int32), σ)
  else
    (if (σ.1 70 0) ≤ p1 then
      some ((0 : Int32), σ)
    else
      some ((1 : Int32), σ)))
set_option maxRecDepth 100000 in
set_option maxHeartbeats 4000000 in
theorem ct_Md_isMaker (X : nm_X) (p1 : Int32) (σ : nm_St) : Ct X mi_Md_isMaker 0 nm_wI [.ref 70, .int p1] σ (Md_isMaker p1 σ) := by
  refine Ct.of (by decide +kernel) rfl (fun F hF0 => ?_)
  unfold Md_isMaker
  refine rn_iload_n (pc := 0) 1 dk_Md_isMaker_0 rfl rfl ?_
  refine rn_if_lt (pc := 1) 16 dk_Md_isMaker_1 (by decide) (fun c1 => ?_) (fun c1 => ?_)
  · refine rn_iconst (pc := 16) (0 : Int32) dk_Md_isMaker_16 cn_i_0 ?_
    exact rn_zret (ty := .boolean) rfl rfl dk_Md_isMaker_17
  · refine rn_iload_n (pc := 4) 1 dk_Md_isMaker_4 rfl rfl ?_
    refine rn_aload_n (pc := 5) 0 dk_Md_isMaker_5 rfl rfl rfl ?_
    refine gf_Md_90 (pc := 6) rfl dk_Md_isMaker_6 ?_
    refine rn_icmp_ge (pc := 9) 16 dk_Md_isMaker_9 (by decide) (fun c2 => ?_) (fun c2 => ?_)
    · refine rn_iconst (pc := 16) (0 : Int32) dk_Md_isMaker_16 cn_i_0 ?_
      exact rn_zret (ty := .boolean) rfl rfl dk_Md_isMaker_17
    · refine rn_iconst (pc := 12) (1 : Int32) dk_Md_isMaker_12 cn_i_1 ?_
      refine rn_goto (pc := 13) 17 dk_Md_isMaker_13 (by decide) ?_
      exact rn_zret (ty := .boolean) rfl rfl dk_Md_isMaker_17
theorem dk_Md_show_0 : decode mi_Md_show.2.1 0 = .ok (.aload_n 0, 1) := by decide +kernel
theorem dk_Md_show_1 : decode mi_Md_show.2.1 1 = .ok (.iload_n 1, 1) := by decide +kernel
theorem dk_Md_show_2 : decode mi_Md_show.2.1 2 = .ok (.invokevirtual 93, 3) := by decide +kernel
theorem dk_Md_show_5 : decode mi_Md_show.2.1 5 = .ok (.ifCond .eq 16, 3) := by decide +kernel
theorem dk_Md_show_8 : decode mi_Md_show.2.1 8 = .ok (.iload_n 2, 1) := by decide +kernel
theorem dk_Md_show_9 : decode mi_Md_show.2.1 9 = .ok (.iconst (-1), 1) := by decide +kernel
theorem dk_Md_show_10 : decode mi_Md_show.2.1 10 = .ok (.if_icmp .eq 17, 3) := by decide +kernel
theorem dk_Md_show_13 : decode mi_Md_show.2.1 13 = .ok (.aload_n 0, 1) := by decide +kernel
theorem dk_Md_show_14 : decode mi_Md_show.2.1 14 = .ok (.iload_n 2, 1) := by decide +kernel
theorem dk_Md_show_15 : decode mi_Md_show.2.1 15 = .ok (.invokevirtual 101, 3) := by decide +kernel
theorem dk_Md_show_18 : decode mi_Md_show.2.1 18 = .ok (.ifCond .ne 9, 3) := by decide +kernel
theorem dk_Md_show_21 : decode mi_Md_show.2.1 21 = .ok (.aload_n 0, 1) := by decide +kernel
theorem dk_Md_show_22 : decode mi_Md_show.2.1 22 = .ok (.iconst (-1), 1) := by decide +kernel
theorem dk_Md_show_23 : decode mi_Md_show.2.1 23 = .ok (.invokevirtual 97, 3) := by decide +kernel
theorem dk_Md_show_26 : decode mi_Md_show.2.1 26 = .ok (.ireturn, 1) := by decide +kernel
theorem dk_Md_show_27 : decode mi_Md_show.2.1 27 = .ok (.aload_n 0, 1) := by decide +kernel
theorem dk_Md_show_28 : decode mi_Md_show.2.1 28 = .ok (.getfield 44, 3) := by decide +kernel
theorem dk_Md_show_31 : decode mi_Md_show.2.1 31 = .ok (.iload_n 1, 1) := by decide +kernel
theorem dk_Md_show_32 : decode mi_Md_show.2.1 32 = .ok (.iload_n 2, 1) := by decide +kernel
theorem dk_Md_show_33 : decode mi_Md_show.2.1 33 = .ok (.iconst (-1), 1) := by decide +kernel
theorem dk_Md_show_34 : decode mi_Md_show.2.1 34 = .ok (.if_icmp .ne 7, 3) := by decide +kernel
theorem dk_Md_show_37 : decode mi_Md_show.2.1 37 = .ok (.iconst 0, 1) := by decide +kernel
theorem dk_Md_show_38 : decode mi_Md_show.2.1 38 = .ok (.goto 4, 3) := by decide +kernel
theorem dk_Md_show_41 : decode mi_Md_show.2.1 41 = .ok (.iconst 2, 1) := by decide +kernel
theorem dk_Md_show_42 : decode mi_Md_show.2.1 42 = .ok (.iastore, 1) := by decide +kernel
theorem dk_Md_show_43 : decode mi_Md_show.2.1 43 = .ok (.aload_n 0, 1) := by decide +kernel
theorem dk_Md_show_44 : decode mi_Md_show.2.1 44 = .ok (.getfield 53, 3) := by decide +kernel
theorem dk_Md_show_47 : decode mi_Md_show.2.1 47 = .ok (.iload_n 1, 1) := by decide +kernel
theorem dk_Md_show_48 : decode mi_Md_show.2.1 48 = .ok (.iload_n 2, 1) := by decide +kernel
theorem dk_Md_show_49 : decode mi_Md_show.2.1 49 = .ok (.iastore, 1) := by decide +kernel
theorem dk_Md_show_50 : decode mi_Md_show.2.1 50 = .ok (.iload_n 2, 1) := by decide +kernel
theorem dk_Md_show_51 : decode mi_Md_show.2.1 51 = .ok (.iconst (-1), 1) := by decide +kernel
theorem dk_Md_show_52 : decode mi_Md_show.2.1 52 = .ok (.if_icmp .ne 7, 3) := by decide +kernel
theorem dk_Md_show_55 : decode mi_Md_show.2.1 55 = .ok (.iconst 0, 1) := by decide +kernel
theorem dk_Md_show_56 : decode mi_Md_show.2.1 56 = .ok (.goto 4, 3) := by decide +kernel
theorem dk_Md_show_59 : decode mi_Md_show.2.1 59 = .ok (.iconst 1, 1) := by decide +kernel
theorem dk_Md_show_60 : decode mi_Md_show.2.1 60 = .ok (.ireturn, 1) := by decide +kernel
def Md_show_j42 (x1 : Int32) (x2 : Int32) (y1 : Int32) (y2 : Int32) (σ : nm_St) : Option (Int32 × nm_St) :=
  (nm_g (nm_in y1 8) (
  (nm_let (nm_pI σ 78 y1.toNatClampNeg y2) fun s7 =>
  (nm_g (nm_in x1 8) (
  (nm_let (nm_pI s7 81 x1.toNatClampNeg x2) fun s9 =>
  (if x2 = (-1 : Int32) then
    some ((0 : Int32), s9)
  else
    some ((1 : Int32), s9))))))))
set_option maxRecDepth 100000 in
set_option maxHeartbeats 4000000 in
theorem r_Md_show_j42 (X : nm_X) (F : nm_F) (hF0 : 1 ≤ nm_d F) (x1 : Int32) (x2 : Int32) (y1 : Int32) (y2 : Int32) (σ : nm_St) : Rn X mi_Md_show F (nm_Qf X F nm_wI) [(0, .ref 70), (1, .int x1), (2, .int x2)] [.int y2, .int y1, .ref 78] 42 σ (Md_show_j42 x1 x2 y1 y2 σ) := by
  unfold Md_show_j42
  refine rn_iastore (pc := 42) rfl dk_Md_show_42 (fun g6 => ?_)
  refine rn_lets (fun s7 => ?_)
  refine rn_aload_n (pc := 43) 0 dk_Md_show_43 rfl rfl rfl ?_
  refine gf_Md_53 (pc := 44) rfl dk_Md_show_44 ?_
  refine rn_iload_n (pc := 47) 1 dk_Md_show_47 rfl rfl ?_
  refine rn_iload_n (pc := 48) 2 dk_Md_show_48 rfl rfl ?_
  refine rn_iastore (pc := 49) rfl dk_Md_show_49 (fun g8 => ?_)
  refine rn_lets (fun s9 => ?_)
  refine rn_iload_n (pc := 50) 2 dk_Md_show_50 rfl rfl ?_
  refine rn_iconst (pc := 51) (-1 : Int32) dk_Md_show_51 cn_i_m1 ?_
  refine rn_icmp_ne (pc := 52) 59 dk_Md_show_52 (by decide) (fun c10 => ?_) (fun c10 => ?_)
  · refine rn_iconst (pc := 59) (1 : Int32) dk_Md_show_59 cn_i_1 ?_
    exact rn_iret rfl dk_Md_show_60
  · refine rn_iconst (pc := 55) (0 : Int32) dk_Md_show_55 cn_i_0 ?_
    refine rn_goto (pc := 56) 60 dk_Md_show_56 (by decide) ?_
    exact rn_iret rfl dk_Md_show_60
def Md_show_j27 (x1 : Int32) (x2 : Int32) (σ : nm_St) : Option (Int32 × nm_St) :=
  (if x2 = (-1 : Int32) then
    Md_show_j42 x1 x2 x1 (0 : Int32) σ
  else
    Md_show_j42 x1 x2 x1 (2 : Int32) σ)
set_option maxRecDepth 100000 in
set_option maxHeartbeats 4000000 in
theorem r_Md_show_j27 (X : nm_X) (F : nm_F) (hF0 : 1 ≤ nm_d F) (x1 : Int32) (x2 : Int32) (σ : nm_St) : Rn X mi_Md_show F (nm_Qf X F nm_wI) [(0, .ref 70), (1, .int x1), (2, .int x2)] [] 27 σ (Md_show_j27 x1 x2 σ) := by
  unfold Md_show_j27
  refine rn_aload_n (pc := 27) 0 dk_Md_show_27 rfl rfl rfl ?_
  refine gf_Md_44 (pc := 28) rfl dk_Md_show_28 ?_
  refine rn_iload_n (pc := 31) 1 dk_Md_show_31 rfl rfl ?_
  refine rn_iload_n (pc := 32) 2 dk_Md_show_32 rfl rfl ?_
  refine rn_iconst (pc := 33) (-1 : Int32) dk_Md_show_33 cn_i_m1 ?_
  refine rn_icmp_ne (pc := 34) 41 dk_Md_show_34 (by decide) (fun c5 => ?_) (fun c5 => ?_)
  · refine rn_iconst (pc := 41) (2 : Int32) dk_Md_show_41 cn_i_2 ?_
    exact rn_sub (by rfl) (r_Md_show_j42 X F hF0 x1 x2 x1 (2 : Int32) σ)
  · refine rn_iconst (pc := 37) (0 : Int32) dk_Md_show_37 cn_i_0 ?_
    refine rn_goto (pc := 38) 42 dk_Md_show_38 (by decide) ?_
    exact rn_sub (by rfl) (r_Md_show_j42 X F hF0 x1 x2 x1 (0 : Int32) σ)
def Md_show (p1 : Int32) (p2 : Int32) (σ : nm_St) : Option (Int32 × nm_St) :=
  ((Md_isShelf p1 σ).bind fun q1 =>
  (if q1.1 = 0 then
    ((Md_no (-1 : Int32) q1.2).bind fun q3 =>
    some (q3.1, q3.2))
  else
    (if p2 = (-1 : Int32) then
      Md_show_j27 p1 p2 q1.2
    else
      ((Md_isMaker p2 q1.2).bind fun q11 =>
      (if q11.1 = 0 then
        ((Md_no (-1 : Int32) q11.2).bind fun q13 =>
        some (q13.1, q13.2))
      else
        Md_show_j27 p1 p2 q11.2)))))
set_option maxRecDepth 100000 in
set_option maxHeartbeats 4000000 in
theorem ct_Md_show (X : nm_X) (p1 : Int32) (p2 : Int32) (σ : nm_St) : Ct X mi_Md_show 1 nm_wI [.ref 70, .int p1, .int p2] σ (Md_show p1 p2 σ) := by
  refine Ct.of (by decide +kernel) rfl (fun F hF0 => ?_)
  unfold Md_show
  refine rn_aload_n (pc := 0) 0 dk_Md_show_0 rfl rfl rfl ?_
  refine rn_iload_n (pc := 1) 1 dk_Md_show_1 rfl rfl ?_
  refine cl_Md_93 (pc := 2) (As := [.int p1]) (st := []) rfl (ct_Md_isShelf X p1 σ) (Nat.le_trans (Nat.le_of_ble_eq_true rfl) hF0) rfl rfl (Nat.le_of_ble_eq_true rfl) dk_Md_show_2 (fun q1 => ?_)
  refine rn_if_eq (pc := 5) 21 dk_Md_show_5 (by decide) (fun c2 => ?_) (fun c2 => ?_)
  · refine rn_aload_n (pc := 21) 0 dk_Md_show_21 rfl rfl rfl ?_
    refine rn_iconst (pc := 22) (-1 : Int32) dk_Md_show_22 cn_i_m1 ?_
    refine cl_Md_97 (pc := 23) (As := [.int (-1 : Int32)]) (st := []) rfl (ct_Md_no X (-1 : Int32) q1.2) (Nat.le_trans (Nat.le_of_ble_eq_true rfl) hF0) rfl rfl (Nat.le_of_ble_eq_true rfl) dk_Md_show_23 (fun q3 => ?_)
    exact rn_iret rfl dk_Md_show_26
  · refine rn_iload_n (pc := 8) 2 dk_Md_show_8 rfl rfl ?_
    refine rn_iconst (pc := 9) (-1 : Int32) dk_Md_show_9 cn_i_m1 ?_
    refine rn_icmp_eq (pc := 10) 27 dk_Md_show_10 (by decide) (fun c4 => ?_) (fun c4 => ?_)
    · exact rn_sub (by rfl) (r_Md_show_j27 X F hF0 p1 p2 q1.2)
    · refine rn_aload_n (pc := 13) 0 dk_Md_show_13 rfl rfl rfl ?_
      refine rn_iload_n (pc := 14) 2 dk_Md_show_14 rfl rfl ?_
      refine cl_Md_101 (pc := 15) (As := [.int p2]) (st := []) rfl (ct_Md_isMaker X p2 q1.2) (Nat.le_trans (Nat.le_of_ble_eq_true rfl) hF0) rfl rfl (Nat.le_of_ble_eq_true rfl) dk_Md_show_15 (fun q11 => ?_)
      refine rn_if_ne (pc := 18) 27 dk_Md_show_18 (by decide) (fun c12 => ?_) (fun c12 => ?_)
      · exact rn_sub (by rfl) (r_Md_show_j27 X F hF0 p1 p2 q11.2)
      · refine rn_aload_n (pc := 21) 0 dk_Md_show_21 rfl rfl rfl ?_
        refine rn_iconst (pc := 22) (-1 : Int32) dk_Md_show_22 cn_i_m1 ?_
        refine cl_Md_97 (pc := 23) (As := [.int (-1 : Int32)]) (st := []) rfl (ct_Md_no X (-1 : Int32) q11.2) (Nat.le_trans (Nat.le_of_ble_eq_true rfl) hF0) rfl rfl (Nat.le_of_ble_eq_true rfl) dk_Md_show_23 (fun q13 => ?_)
        exact rn_iret rfl dk_Md_show_26
theorem dk_Md_holds_0 : decode mi_Md_holds.2.1 0 = .ok (.aload_n 0, 1) := by decide +kernel
theorem dk_Md_holds_1 : decode mi_Md_holds.2.1 1 = .ok (.iload_n 1, 1) := by decide +kernel
theorem dk_Md_holds_2 : decode mi_Md_holds.2.1 2 = .ok (.invokevirtual 93, 3) := by decide +kernel
theorem dk_Md_holds_5 : decode mi_Md_holds.2.1 5 = .ok (.ifCond .eq 12, 3) := by decide +kernel
theorem dk_Md_holds_8 : decode mi_Md_holds.2.1 8 = .ok (.aload_n 0, 1) := by decide +kernel
theorem dk_Md_holds_9 : decode mi_Md_holds.2.1 9 = .ok (.getfield 44, 3) := by decide +kernel
theorem dk_Md_holds_12 : decode mi_Md_holds.2.1 12 = .ok (.iload_n 1, 1) := by decide +kernel
theorem dk_Md_holds_13 : decode mi_Md_holds.2.1 13 = .ok (.iaload, 1) := by decide +kernel
theorem dk_Md_holds_14 : decode mi_Md_holds.2.1 14 = .ok (.ifCond .ne 5, 3) := by decide +kernel
theorem dk_Md_holds_17 : decode mi_Md_holds.2.1 17 = .ok (.iconst (-1), 1) := by decide +kernel
theorem dk_Md_holds_18 : decode mi_Md_holds.2.1 18 = .ok (.ireturn, 1) := by decide +kernel
theorem dk_Md_holds_19 : decode mi_Md_holds.2.1 19 = .ok (.aload_n 0, 1) := by decide +kernel
theorem dk_Md_holds_20 : decode mi_Md_holds.2.1 20 = .ok (.getfield 44, 3) := by decide +kernel
theorem dk_Md_holds_23 : decode mi_Md_holds.2.1 23 = .ok (.iload_n 1, 1) := by decide +kernel
theorem dk_Md_holds_24 : decode mi_Md_holds.2.1 24 = .ok (.iaload, 1) := by decide +kernel
theorem dk_Md_holds_25 : decode mi_Md_holds.2.1 25 = .ok (.iconst 1, 1) := by decide +kernel
theorem dk_Md_holds_26 : decode mi_Md_holds.2.1 26 = .ok (.if_icmp .ne 15, 3) := by decide +kernel
theorem dk_Md_holds_29 : decode mi_Md_holds.2.1 29 = .ok (.bipush 100, 2) := by decide +kernel
theorem dk_Md_holds_31 : decode mi_Md_holds.2.1 31 = .ok (.aload_n 0, 1) := by decide +kernel
theorem dk_Md_holds_32 : decode mi_Md_holds.2.1 32 = .ok (.getfield 47, 3) := by decide +kernel
theorem dk_Md_holds_35 : decode mi_Md_holds.2.1 35 = .ok (.iload_n 1, 1) := by decide +kernel
theorem dk_Md_holds_36 : decode mi_Md_holds.2.1 36 = .ok (.iaload, 1) := by decide +kernel
theorem dk_Md_holds_37 : decode mi_Md_holds.2.1 37 = .ok (.iadd, 1) := by decide +kernel
theorem dk_Md_holds_38 : decode mi_Md_holds.2.1 38 = .ok (.goto 9, 3) := by decide +kernel
theorem dk_Md_holds_41 : decode mi_Md_holds.2.1 41 = .ok (.aload_n 0, 1) := by decide +kernel
theorem dk_Md_holds_42 : decode mi_Md_holds.2.1 42 = .ok (.getfield 53, 3) := by decide +kernel
theorem dk_Md_holds_45 : decode mi_Md_holds.2.1 45 = .ok (.iload_n 1, 1) := by decide +kernel
theorem dk_Md_holds_46 : decode mi_Md_holds.2.1 46 = .ok (.iaload, 1) := by decide +kernel
theorem dk_Md_holds_47 : decode mi_Md_holds.2.1 47 = .ok (.ireturn, 1) := by decide +kernel
def Md_holds (p1 : Int32) (σ : nm_St) : Option (Int32 × nm_St) :=
  ((Md_isShelf p1 σ).bind fun q1 =>
  (if q1.1 = 0 then
    some ((-1 : Int32), q1.2)
  else
    (nm_g (nm_in p1 8) (
    (if (q1.2.1 78 p1.toNatClampNeg) = 0 then
      some ((-1 : Int32), q1.2)
    else
      (nm_g (nm_in p1 8) (
      (if (q1.2.1 78 p1.toNatClampNeg) = (1 : Int32) then
        (nm_g (nm_in p1 8) (
        some (((100 : Int32) + (q1.2.1 79 p1.toNatClampNeg)), q1.2)))
      else
        (nm_g (nm_in p1 8) (
        some ((q1.2.1 81 p1.toNatClampNeg), q1.2)))))))))))
set_option maxRecDepth 100000 in
set_option maxHeartbeats 4000000 in
theorem ct_Md_holds (X : nm_X) (p1 : Int32) (σ : nm_St) : Ct X mi_Md_holds 1 nm_wI [.ref 70, .int p1] σ (Md_holds p1 σ) := by
  refine Ct.of (by decide +kernel) rfl (fun F hF0 => ?_)
  unfold Md_holds
  refine rn_aload_n (pc := 0) 0 dk_Md_holds_0 rfl rfl rfl ?_
  refine rn_iload_n (pc := 1) 1 dk_Md_holds_1 rfl rfl ?_
  refine cl_Md_93 (pc := 2) (As := [.int p1]) (st := []) rfl (ct_Md_isShelf X p1 σ) (Nat.le_trans (Nat.le_of_ble_eq_true rfl) hF0) rfl rfl (Nat.le_of_ble_eq_true rfl) dk_Md_holds_2 (fun q1 => ?_)
  refine rn_if_eq (pc := 5) 17 dk_Md_holds_5 (by decide) (fun c2 => ?_) (fun c2 => ?_)
  · refine rn_iconst (pc := 17) (-1 : Int32) dk_Md_holds_17 cn_i_m1 ?_
    exact rn_iret rfl dk_Md_holds_18
  · refine rn_aload_n (pc := 8) 0 dk_Md_holds_8 rfl rfl rfl ?_
    refine gf_Md_44 (pc := 9) rfl dk_Md_holds_9 ?_
    refine rn_iload_n (pc := 12) 1 dk_Md_holds_12 rfl rfl ?_
    refine rn_iaload (pc := 13) rfl dk_Md_holds_13 (fun g3 => ?_)
    refine rn_if_ne (pc := 14) 19 dk_Md_holds_14 (by decide) (fun c4 => ?_) (fun c4 => ?_)
    · refine rn_aload_n (pc := 19) 0 dk_Md_holds_19 rfl rfl rfl ?_
      refine gf_Md_44 (pc := 20) rfl dk_Md_holds_20 ?_
      refine rn_iload_n (pc := 23) 1 dk_Md_holds_23 rfl rfl ?_
      refine rn_iaload (pc := 24) rfl dk_Md_holds_24 (fun g5 => ?_)
      refine rn_iconst (pc := 25) (1 : Int32) dk_Md_holds_25 cn_i_1 ?_
      refine rn_icmp_ne (pc := 26) 41 dk_Md_holds_26 (by decide) (fun c6 => ?_) (fun c6 => ?_)
      · refine rn_aload_n (pc := 41) 0 dk_Md_holds_41 rfl rfl rfl ?_
        refine gf_Md_53 (pc := 42) rfl dk_Md_holds_42 ?_
        refine rn_iload_n (pc := 45) 1 dk_Md_holds_45 rfl rfl ?_
        refine rn_iaload (pc := 46) rfl dk_Md_holds_46 (fun g7 => ?_)
        exact rn_iret rfl dk_Md_holds_47
      · refine rn_bipush (pc := 29) (100 : Int32) dk_Md_holds_29 cn_b_100 ?_
        refine rn_aload_n (pc := 31) 0 dk_Md_holds_31 rfl rfl rfl ?_
        refine gf_Md_47 (pc := 32) rfl dk_Md_holds_32 ?_
        refine rn_iload_n (pc := 35) 1 dk_Md_holds_35 rfl rfl ?_
        refine rn_iaload (pc := 36) rfl dk_Md_holds_36 (fun g8 => ?_)
        refine rn_iadd (pc := 37) dk_Md_holds_37 ?_
        refine rn_goto (pc := 38) 47 dk_Md_holds_38 (by decide) ?_
        exact rn_iret rfl dk_Md_holds_47
    · refine rn_iconst (pc := 17) (-1 : Int32) dk_Md_holds_17 cn_i_m1 ?_
      exact rn_iret rfl dk_Md_holds_18
theorem dk_Md_has_0 : decode mi_Md_has.2.1 0 = .ok (.iload_n 1, 1) := by decide +kernel
theorem dk_Md_has_1 : decode mi_Md_has.2.1 1 = .ok (.iload_n 2, 1) := by decide +kernel
theorem dk_Md_has_2 : decode mi_Md_has.2.1 2 = .ok (.ishr, 1) := by decide +kernel
theorem dk_Md_has_3 : decode mi_Md_has.2.1 3 = .ok (.iconst 1, 1) := by decide +kernel
theorem dk_Md_has_4 : decode mi_Md_has.2.1 4 = .ok (.iand, 1) := by decide +kernel
theorem dk_Md_has_5 : decode mi_Md_has.2.1 5 = .ok (.iconst 1, 1) := by decide +kernel
theorem dk_Md_has_6 : decode mi_Md_has.2.1 6 = .ok (.if_icmp .ne 7, 3) := by decide +kernel
theorem dk_Md_has_9 : decode mi_Md_has.2.1 9 = .ok (.iconst 1, 1) := by decide +kernel
theorem dk_Md_has_10 : decode mi_Md_has.2.1 10 = .ok (.goto 4, 3) := by decide +kernel
theorem dk_Md_has_13 : decode mi_Md_has.2.1 13 = .ok (.iconst 0, 1) := by decide +kernel
theorem dk_Md_has_14 : decode mi_Md_has.2.1 14 = .ok (.ireturn, 1) := by decide +kernel
def Md_has (p1 : Int32) (p2 : Int32) (σ : nm_St) : Option (Int32 × nm_St) :=
  (if ((p1 >>> (p2 &&& 31)) &&& (1 : Int32)) = (1 : Int32) then
    some ((1 : Int32), σ)
  else
    some ((0 : Int32), σ))
set_option maxRecDepth 100000 in
set_option maxHeartbeats 4000000 in
theorem ct_Md_has (X : nm_X) (p1 : Int32) (p2 : Int32) (σ : nm_St) : Ct X mi_Md_has 0 nm_wI [.ref 70, .int p1, .int p2] σ (Md_has p1 p2 σ) := by
  refine Ct.of (by decide +kernel) rfl (fun F hF0 => ?_)
  unfold Md_has
  refine rn_iload_n (pc := 0) 1 dk_Md_has_0 rfl rfl ?_
  refine rn_iload_n (pc := 1) 2 dk_Md_has_1 rfl rfl ?_
  refine rn_ishr (pc := 2) dk_Md_has_2 ?_
  refine rn_iconst (pc := 3) (1 : Int32) dk_Md_has_3 cn_i_1 ?_
  refine rn_iand (pc := 4) dk_Md_has_4 ?_
  refine rn_iconst (pc := 5) (1 : Int32) dk_Md_has_5 cn_i_1 ?_
  refine rn_icmp_ne (pc := 6) 13 dk_Md_has_6 (by decide) (fun c1 => ?_) (fun c1 => ?_)
  · refine rn_iconst (pc := 13) (0 : Int32) dk_Md_has_13 cn_i_0 ?_
    exact rn_zret (ty := .boolean) rfl rfl dk_Md_has_14
  · refine rn_iconst (pc := 9) (1 : Int32) dk_Md_has_9 cn_i_1 ?_
    refine rn_goto (pc := 10) 14 dk_Md_has_10 (by decide) ?_
    exact rn_zret (ty := .boolean) rfl rfl dk_Md_has_14
theorem dk_Md_kinHome_0 : decode mi_Md_kinHome.2.1 0 = .ok (.iconst 0, 1) := by decide +kernel
theorem dk_Md_kinHome_1 : decode mi_Md_kinHome.2.1 1 = .ok (.istore_n 2, 1) := by decide +kernel
theorem dk_Md_kinHome_2 : decode mi_Md_kinHome.2.1 2 = .ok (.iconst 0, 1) := by decide +kernel
theorem dk_Md_kinHome_3 : decode mi_Md_kinHome.2.1 3 = .ok (.istore_n 3, 1) := by decide +kernel
theorem dk_Md_kinHome_4 : decode mi_Md_kinHome.2.1 4 = .ok (.iload_n 3, 1) := by decide +kernel
theorem dk_Md_kinHome_5 : decode mi_Md_kinHome.2.1 5 = .ok (.aload_n 0, 1) := by decide +kernel
theorem dk_Md_kinHome_6 : decode mi_Md_kinHome.2.1 6 = .ok (.getfield 90, 3) := by decide +kernel
theorem dk_Md_kinHome_9 : decode mi_Md_kinHome.2.1 9 = .ok (.if_icmp .ge 35, 3) := by decide +kernel
theorem dk_Md_kinHome_12 : decode mi_Md_kinHome.2.1 12 = .ok (.aload_n 0, 1) := by decide +kernel
theorem dk_Md_kinHome_13 : decode mi_Md_kinHome.2.1 13 = .ok (.aload_n 0, 1) := by decide +kernel
theorem dk_Md_kinHome_14 : decode mi_Md_kinHome.2.1 14 = .ok (.getfield 38, 3) := by decide +kernel
theorem dk_Md_kinHome_17 : decode mi_Md_kinHome.2.1 17 = .ok (.iload_n 1, 1) := by decide +kernel
theorem dk_Md_kinHome_18 : decode mi_Md_kinHome.2.1 18 = .ok (.iaload, 1) := by decide +kernel
theorem dk_Md_kinHome_19 : decode mi_Md_kinHome.2.1 19 = .ok (.iload_n 3, 1) := by decide +kernel
theorem dk_Md_kinHome_20 : decode mi_Md_kinHome.2.1 20 = .ok (.invokevirtual 174, 3) := by decide +kernel
theorem dk_Md_kinHome_23 : decode mi_Md_kinHome.2.1 23 = .ok (.ifCond .eq 15, 3) := by decide +kernel
theorem dk_Md_kinHome_26 : decode mi_Md_kinHome.2.1 26 = .ok (.aload_n 0, 1) := by decide +kernel
theorem dk_Md_kinHome_27 : decode mi_Md_kinHome.2.1 27 = .ok (.getfield 41, 3) := by decide +kernel
theorem dk_Md_kinHome_30 : decode mi_Md_kinHome.2.1 30 = .ok (.iload_n 3, 1) := by decide +kernel
theorem dk_Md_kinHome_31 : decode mi_Md_kinHome.2.1 31 = .ok (.iaload, 1) := by decide +kernel
theorem dk_Md_kinHome_32 : decode mi_Md_kinHome.2.1 32 = .ok (.ifCond .ne 6, 3) := by decide +kernel
theorem dk_Md_kinHome_35 : decode mi_Md_kinHome.2.1 35 = .ok (.iinc 2 1, 3) := by decide +kernel
theorem dk_Md_kinHome_38 : decode mi_Md_kinHome.2.1 38 = .ok (.iinc 3 1, 3) := by decide +kernel
theorem dk_Md_kinHome_41 : decode mi_Md_kinHome.2.1 41 = .ok (.goto (-37), 3) := by decide +kernel
theorem dk_Md_kinHome_44 : decode mi_Md_kinHome.2.1 44 = .ok (.iload_n 2, 1) := by decide +kernel
theorem dk_Md_kinHome_45 : decode mi_Md_kinHome.2.1 45 = .ok (.ireturn, 1) := by decide +kernel
def Md_kinHome_l4 (k_44 : Int32 → nm_St → Option (Int32 × nm_St)) : Nat → Int32 → Int32 → Int32 → nm_St → Option (Int32 × nm_St)
  | 0, _, _, _, _ => none
  | n + 1, x1, x2, x3, σ =>
    (if (σ.1 70 0) ≤ x3 then
      k_44 x2 σ
    else
      (nm_g (nm_in x1 8) (
      ((Md_has (σ.1 76 x1.toNatClampNeg) x3 σ).bind fun q3 =>
      (if q3.1 = 0 then
        (Md_kinHome_l4 k_44 n) x1 x2 (x3 + (1 : Int32)) q3.2
      else
        (nm_g (nm_in x3 8) (
        (if (q3.2.1 77 x3.toNatClampNeg) = 0 then
          (Md_kinHome_l4 k_44 n) x1 (x2 + (1 : Int32)) (x3 + (1 : Int32)) q3.2
        else
          (Md_kinHome_l4 k_44 n) x1 x2 (x3 + (1 : Int32)) q3.2))))))))
set_option maxRecDepth 100000 in
set_option maxHeartbeats 4000000 in
theorem r_Md_kinHome_l4 (X : nm_X) (F : nm_F) (hF0 : 1 ≤ nm_d F) (k_44 : Int32 → nm_St → Option (Int32 × nm_St)) (hk_44 : ∀ (x2 : Int32) (σ : nm_St), Rn X mi_Md_kinHome F (nm_Qf X F nm_wI) [(2, .int x2)] [] 44 σ (k_44 x2 σ)) : ∀ (n : Nat) (x1 : Int32) (x2 : Int32) (x3 : Int32) (σ : nm_St), Rn X mi_Md_kinHome F (nm_Qf X F nm_wI) [(0, .ref 70), (1, .int x1), (2, .int x2), (3, .int x3)] [] 4 σ (Md_kinHome_l4 k_44 n x1 x2 x3 σ) := by
  intro n
  induction n with
  | zero =>
    intro x1 x2 x3 σ
    exact rn_none
  | succ n ih =>
    intro x1 x2 x3 σ
    unfold Md_kinHome_l4
    refine rn_iload_n (pc := 4) 3 dk_Md_kinHome_4 rfl rfl ?_
    refine rn_aload_n (pc := 5) 0 dk_Md_kinHome_5 rfl rfl rfl ?_
    refine gf_Md_90 (pc := 6) rfl dk_Md_kinHome_6 ?_
    refine rn_icmp_ge (pc := 9) 44 dk_Md_kinHome_9 (by decide) (fun c1 => ?_) (fun c1 => ?_)
    · exact rn_sub (by rfl) (hk_44 x2 σ)
    · refine rn_aload_n (pc := 12) 0 dk_Md_kinHome_12 rfl rfl rfl ?_
      refine rn_aload_n (pc := 13) 0 dk_Md_kinHome_13 rfl rfl rfl ?_
      refine gf_Md_38 (pc := 14) rfl dk_Md_kinHome_14 ?_
      refine rn_iload_n (pc := 17) 1 dk_Md_kinHome_17 rfl rfl ?_
      refine rn_iaload (pc := 18) rfl dk_Md_kinHome_18 (fun g2 => ?_)
      refine rn_iload_n (pc := 19) 3 dk_Md_kinHome_19 rfl rfl ?_
      refine cl_Md_174 (pc := 20) (As := [.int (σ.1 76 x1.toNatClampNeg), .int x3]) (st := []) rfl (ct_Md_has X (σ.1 76 x1.toNatClampNeg) x3 σ) (Nat.le_trans (Nat.le_of_ble_eq_true rfl) hF0) rfl rfl (Nat.le_of_ble_eq_true rfl) dk_Md_kinHome_20 (fun q3 => ?_)
      refine rn_if_eq (pc := 23) 38 dk_Md_kinHome_23 (by decide) (fun c4 => ?_) (fun c4 => ?_)
      · refine rn_iinc (pc := 38) (1 : Int32) dk_Md_kinHome_38 cn_i_1 rfl rfl rfl ?_
        refine rn_goto (pc := 41) 4 dk_Md_kinHome_41 (by decide) ?_
        exact rn_sub (by rfl) (ih x1 x2 (x3 + (1 : Int32)) q3.2)
      · refine rn_aload_n (pc := 26) 0 dk_Md_kinHome_26 rfl rfl rfl ?_
        refine gf_Md_41 (pc := 27) rfl dk_Md_kinHome_27 ?_
        refine rn_iload_n (pc := 30) 3 dk_Md_kinHome_30 rfl rfl ?_
        refine rn_iaload (pc := 31) rfl dk_Md_kinHome_31 (fun g5 => ?_)
        refine rn_if_ne (pc := 32) 38 dk_Md_kinHome_32 (by decide) (fun c6 => ?_) (fun c6 => ?_)
        · refine rn_iinc (pc := 38) (1 : Int32) dk_Md_kinHome_38 cn_i_1 rfl rfl rfl ?_
          refine rn_goto (pc := 41) 4 dk_Md_kinHome_41 (by decide) ?_
          exact rn_sub (by rfl) (ih x1 x2 (x3 + (1 : Int32)) q3.2)
        · refine rn_iinc (pc := 35) (1 : Int32) dk_Md_kinHome_35 cn_i_1 rfl rfl rfl ?_
          refine rn_iinc (pc := 38) (1 : Int32) dk_Md_kinHome_38 cn_i_1 rfl rfl rfl ?_
          refine rn_goto (pc := 41) 4 dk_Md_kinHome_41 (by decide) ?_
          exact rn_sub (by rfl) (ih x1 (x2 + (1 : Int32)) (x3 + (1 : Int32)) q3.2)
def Md_kinHome (p1 : Int32) (σ : nm_St) : Option (Int32 × nm_St) :=
  Md_kinHome_l4 (fun (e8 : Int32) (s7 : nm_St) =>
    some (e8, s7)) 400 p1 (0 : Int32) (0 : Int32) σ
set_option maxRecDepth 100000 in
set_option maxHeartbeats 4000000 in
theorem ct_Md_kinHome (X : nm_X) (p1 : Int32) (σ : nm_St) : Ct X mi_Md_kinHome 1 nm_wI [.ref 70, .int p1] σ (Md_kinHome p1 σ) := by
  refine Ct.of (by decide +kernel) rfl (fun F hF0 => ?_)
  unfold Md_kinHome
  refine rn_iconst (pc := 0) (0 : Int32) dk_Md_kinHome_0 cn_i_0 ?_
  refine rn_istore_n (pc := 1) 2 dk_Md_kinHome_1 rfl rfl rfl ?_
  refine rn_iconst (pc := 2) (0 : Int32) dk_Md_kinHome_2 cn_i_0 ?_
  refine rn_istore_n (pc := 3) 3 dk_Md_kinHome_3 rfl rfl rfl ?_
  refine rn_sub (by rfl) (r_Md_kinHome_l4 X F hF0 _ (fun e8 s7 => ?_) 400 p1 (0 : Int32) (0 : Int32) σ)
  refine rn_iload_n (pc := 44) 2 dk_Md_kinHome_44 rfl rfl ?_
  exact rn_iret rfl dk_Md_kinHome_45
theorem dk_Md_less_0 : decode mi_Md_less.2.1 0 = .ok (.aload_n 0, 1) := by decide +kernel
theorem dk_Md_less_1 : decode mi_Md_less.2.1 1 = .ok (.getfield 32, 3) := by decide +kernel
theorem dk_Md_less_4 : decode mi_Md_less.2.1 4 = .ok (.iload_n 1, 1) := by decide +kernel
theorem dk_Md_less_5 : decode mi_Md_less.2.1 5 = .ok (.iaload, 1) := by decide +kernel
theorem dk_Md_less_6 : decode mi_Md_less.2.1 6 = .ok (.aload_n 0, 1) := by decide +kernel
theorem dk_Md_less_7 : decode mi_Md_less.2.1 7 = .ok (.getfield 29, 3) := by decide +kernel
theorem dk_Md_less_10 : decode mi_Md_less.2.1 10 = .ok (.iload_n 1, 1) := by decide +kernel
theorem dk_Md_less_11 : decode mi_Md_less.2.1 11 = .ok (.iaload, 1) := by decide +kernel
theorem dk_Md_less_12 : decode mi_Md_less.2.1 12 = .ok (.if_icmp .le 19, 3) := by decide +kernel
theorem dk_Md_less_15 : decode mi_Md_less.2.1 15 = .ok (.aload_n 0, 1) := by decide +kernel
theorem dk_Md_less_16 : decode mi_Md_less.2.1 16 = .ok (.getfield 32, 3) := by decide +kernel
theorem dk_Md_less_19 : decode mi_Md_less.2.1 19 = .ok (.iload_n 1, 1) := by decide +kernel
theorem dk_Md_less_20 : decode mi_Md_less.2.1 20 = .ok (.iaload, 1) := by decide +kernel
theorem dk_Md_less_21 : decode mi_Md_less.2.1 21 = .ok (.aload_n 0, 1) := by decide +kernel
theorem dk_Md_less_22 : decode mi_Md_less.2.1 22 = .ok (.getfield 29, 3) := by decide +kernel
theorem dk_Md_less_25 : decode mi_Md_less.2.1 25 = .ok (.iload_n 1, 1) := by decide +kernel
theorem dk_Md_less_26 : decode mi_Md_less.2.1 26 = .ok (.iaload, 1) := by decide +kernel
theorem dk_Md_less_27 : decode mi_Md_less.2.1 27 = .ok (.isub, 1) := by decide +kernel
theorem dk_Md_less_28 : decode mi_Md_less.2.1 28 = .ok (.goto 4, 3) := by decide +kernel
theorem dk_Md_less_31 : decode mi_Md_less.2.1 31 = .ok (.iconst 0, 1) := by decide +kernel
theorem dk_Md_less_32 : decode mi_Md_less.2.1 32 = .ok (.ireturn, 1) := by decide +kernel
def Md_less (p1 : Int32) (σ : nm_St) : Option (Int32 × nm_St) :=
  (nm_g (nm_in p1 8) (
  (nm_g (nm_in p1 8) (
  (if (σ.1 74 p1.toNatClampNeg) ≤ (σ.1 73 p1.toNatClampNeg) then
    some ((0 : Int32), σ)
  else
    (nm_g (nm_in p1 8) (
    (nm_g (nm_in p1 8) (
    some (((σ.1 74 p1.toNatClampNeg) - (σ.1 73 p1.toNatClampNeg)), σ))))))))))
set_option maxRecDepth 100000 in
set_option maxHeartbeats 4000000 in
theorem ct_Md_less (X : nm_X) (p1 : Int32) (σ : nm_St) : Ct X mi_Md_less 0 nm_wI [.ref 70, .int p1] σ (Md_less p1 σ) := by
  refine Ct.of (by decide +kernel) rfl (fun F hF0 => ?_)
  unfold Md_less
  refine rn_aload_n (pc := 0) 0 dk_Md_less_0 rfl rfl rfl ?_
  refine gf_Md_32 (pc := 1) rfl dk_Md_less_1 ?_
  refine rn_iload_n (pc := 4) 1 dk_Md_less_4 rfl rfl ?_
  refine rn_iaload (pc := 5) rfl dk_Md_less_5 (fun g1 => ?_)
  refine rn_aload_n (pc := 6) 0 dk_Md_less_6 rfl rfl rfl ?_
  refine gf_Md_29 (pc := 7) rfl dk_Md_less_7 ?_
  refine rn_iload_n (pc := 10) 1 dk_Md_less_10 rfl rfl ?_
  refine rn_iaload (pc := 11) rfl dk_Md_less_11 (fun g2 => ?_)
  refine rn_icmp_le (pc := 12) 31 dk_Md_less_12 (by decide) (fun c3 => ?_) (fun c3 => ?_)
  · refine rn_iconst (pc := 31) (0 : Int32) dk_Md_less_31 cn_i_0 ?_
    exact rn_iret rfl dk_Md_less_32
  · refine rn_aload_n (pc := 15) 0 dk_Md_less_15 rfl rfl rfl ?_
    refine gf_Md_32 (pc := 16) rfl dk_Md_less_16 ?_
    refine rn_iload_n (pc := 19) 1 dk_Md_less_19 rfl rfl ?_
    refine rn_iaload (pc := 20) rfl dk_Md_less_20 (fun g4 => ?_)
    refine rn_aload_n (pc := 21) 0 dk_Md_less_21 rfl rfl rfl ?_
    refine gf_Md_29 (pc := 22) rfl dk_Md_less_22 ?_
    refine rn_iload_n (pc := 25) 1 dk_Md_less_25 rfl rfl ?_
    refine rn_iaload (pc := 26) rfl dk_Md_less_26 (fun g5 => ?_)
    refine rn_isub (pc := 27) dk_Md_less_27 ?_
    refine rn_goto (pc := 28) 32 dk_Md_less_28 (by decide) ?_
    exact rn_iret rfl dk_Md_less_32
theorem dk_Md_price_0 : decode mi_Md_price.2.1 0 = .ok (.aload_n 0, 1) := by decide +kernel
theorem dk_Md_price_1 : decode mi_Md_price.2.1 1 = .ok (.getfield 26, 3) := by decide +kernel
theorem dk_Md_price_4 : decode mi_Md_price.2.1 4 = .ok (.iload_n 1, 1) := by decide +kernel
theorem dk_Md_price_5 : decode mi_Md_price.2.1 5 = .ok (.iaload, 1) := by decide +kernel
theorem dk_Md_price_6 : decode mi_Md_price.2.1 6 = .ok (.tableswitch 132 1 6 #[38, 87, 58, 108, 101, 119], 38) := by decide +kernel
theorem dk_Md_price_44 : decode mi_Md_price.2.1 44 = .ok (.aload_n 0, 1) := by decide +kernel
theorem dk_Md_price_45 : decode mi_Md_price.2.1 45 = .ok (.getfield 32, 3) := by decide +kernel
theorem dk_Md_price_48 : decode mi_Md_price.2.1 48 = .ok (.iload_n 1, 1) := by decide +kernel
theorem dk_Md_price_49 : decode mi_Md_price.2.1 49 = .ok (.iaload, 1) := by decide +kernel
theorem dk_Md_price_50 : decode mi_Md_price.2.1 50 = .ok (.aload_n 0, 1) := by decide +kernel
theorem dk_Md_price_51 : decode mi_Md_price.2.1 51 = .ok (.getfield 118, 3) := by decide +kernel
theorem dk_Md_price_54 : decode mi_Md_price.2.1 54 = .ok (.iadd, 1) := by decide +kernel
theorem dk_Md_price_55 : decode mi_Md_price.2.1 55 = .ok (.iconst 5, 1) := by decide +kernel
theorem dk_Md_price_56 : decode mi_Md_price.2.1 56 = .ok (.aload_n 0, 1) := by decide +kernel
theorem dk_Md_price_57 : decode mi_Md_price.2.1 57 = .ok (.iload_n 1, 1) := by decide +kernel
theorem dk_Md_price_58 : decode mi_Md_price.2.1 58 = .ok (.invokevirtual 104, 3) := by decide +kernel
theorem dk_Md_price_61 : decode mi_Md_price.2.1 61 = .ok (.imul, 1) := by decide +kernel
theorem dk_Md_price_62 : decode mi_Md_price.2.1 62 = .ok (.iadd, 1) := by decide +kernel
theorem dk_Md_price_63 : decode mi_Md_price.2.1 63 = .ok (.ireturn, 1) := by decide +kernel
theorem dk_Md_price_64 : decode mi_Md_price.2.1 64 = .ok (.aload_n 0, 1) := by decide +kernel
theorem dk_Md_price_65 : decode mi_Md_price.2.1 65 = .ok (.getfield 32, 3) := by decide +kernel
theorem dk_Md_price_68 : decode mi_Md_price.2.1 68 = .ok (.iload_n 1, 1) := by decide +kernel
theorem dk_Md_price_69 : decode mi_Md_price.2.1 69 = .ok (.iaload, 1) := by decide +kernel
theorem dk_Md_price_70 : decode mi_Md_price.2.1 70 = .ok (.aload_n 0, 1) := by decide +kernel
theorem dk_Md_price_71 : decode mi_Md_price.2.1 71 = .ok (.getfield 118, 3) := by decide +kernel
theorem dk_Md_price_74 : decode mi_Md_price.2.1 74 = .ok (.iadd, 1) := by decide +kernel
theorem dk_Md_price_75 : decode mi_Md_price.2.1 75 = .ok (.iconst 5, 1) := by decide +kernel
theorem dk_Md_price_76 : decode mi_Md_price.2.1 76 = .ok (.aload_n 0, 1) := by decide +kernel
theorem dk_Md_price_77 : decode mi_Md_price.2.1 77 = .ok (.iload_n 1, 1) := by decide +kernel
theorem dk_Md_price_78 : decode mi_Md_price.2.1 78 = .ok (.invokevirtual 104, 3) := by decide +kernel
theorem dk_Md_price_81 : decode mi_Md_price.2.1 81 = .ok (.imul, 1) := by decide +kernel
theorem dk_Md_price_82 : decode mi_Md_price.2.1 82 = .ok (.iadd, 1) := by decide +kernel
theorem dk_Md_price_83 : decode mi_Md_price.2.1 83 = .ok (.iconst 3, 1) := by decide +kernel
theorem dk_Md_price_84 : decode mi_Md_price.2.1 84 = .ok (.aload_n 0, 1) := by decide +kernel
theorem dk_Md_price_85 : decode mi_Md_price.2.1 85 = .ok (.getfield 29, 3) := by decide +kernel
theorem dk_Md_price_88 : decode mi_Md_price.2.1 88 = .ok (.iload_n 1, 1) := by decide +kernel
theorem dk_Md_price_89 : decode mi_Md_price.2.1 89 = .ok (.iaload, 1) := by decide +kernel
theorem dk_Md_price_90 : decode mi_Md_price.2.1 90 = .ok (.imul, 1) := by decide +kernel
theorem dk_Md_price_91 : decode mi_Md_price.2.1 91 = .ok (.iadd, 1) := by decide +kernel
theorem dk_Md_price_92 : decode mi_Md_price.2.1 92 = .ok (.ireturn, 1) := by decide +kernel
theorem dk_Md_price_93 : decode mi_Md_price.2.1 93 = .ok (.aload_n 0, 1) := by decide +kernel
theorem dk_Md_price_94 : decode mi_Md_price.2.1 94 = .ok (.getfield 32, 3) := by decide +kernel
theorem dk_Md_price_97 : decode mi_Md_price.2.1 97 = .ok (.iload_n 1, 1) := by decide +kernel
theorem dk_Md_price_98 : decode mi_Md_price.2.1 98 = .ok (.iaload, 1) := by decide +kernel
theorem dk_Md_price_99 : decode mi_Md_price.2.1 99 = .ok (.iconst 2, 1) := by decide +kernel
theorem dk_Md_price_100 : decode mi_Md_price.2.1 100 = .ok (.idiv, 1) := by decide +kernel
theorem dk_Md_price_101 : decode mi_Md_price.2.1 101 = .ok (.aload_n 0, 1) := by decide +kernel
theorem dk_Md_price_102 : decode mi_Md_price.2.1 102 = .ok (.getfield 118, 3) := by decide +kernel
theorem dk_Md_price_105 : decode mi_Md_price.2.1 105 = .ok (.iadd, 1) := by decide +kernel
theorem dk_Md_price_106 : decode mi_Md_price.2.1 106 = .ok (.ireturn, 1) := by decide +kernel
theorem dk_Md_price_107 : decode mi_Md_price.2.1 107 = .ok (.aload_n 0, 1) := by decide +kernel
theorem dk_Md_price_108 : decode mi_Md_price.2.1 108 = .ok (.getfield 29, 3) := by decide +kernel
theorem dk_Md_price_111 : decode mi_Md_price.2.1 111 = .ok (.iload_n 1, 1) := by decide +kernel
theorem dk_Md_price_112 : decode mi_Md_price.2.1 112 = .ok (.iaload, 1) := by decide +kernel
theorem dk_Md_price_113 : decode mi_Md_price.2.1 113 = .ok (.ireturn, 1) := by decide +kernel
theorem dk_Md_price_114 : decode mi_Md_price.2.1 114 = .ok (.aload_n 0, 1) := by decide +kernel
theorem dk_Md_price_115 : decode mi_Md_price.2.1 115 = .ok (.iload_n 1, 1) := by decide +kernel
theorem dk_Md_price_116 : decode mi_Md_price.2.1 116 = .ok (.invokevirtual 177, 3) := by decide +kernel
theorem dk_Md_price_119 : decode mi_Md_price.2.1 119 = .ok (.aload_n 0, 1) := by decide +kernel
theorem dk_Md_price_120 : decode mi_Md_price.2.1 120 = .ok (.getfield 118, 3) := by decide +kernel
theorem dk_Md_price_123 : decode mi_Md_price.2.1 123 = .ok (.iadd, 1) := by decide +kernel
theorem dk_Md_price_124 : decode mi_Md_price.2.1 124 = .ok (.ireturn, 1) := by decide +kernel
theorem dk_Md_price_125 : decode mi_Md_price.2.1 125 = .ok (.aload_n 0, 1) := by decide +kernel
theorem dk_Md_price_126 : decode mi_Md_price.2.1 126 = .ok (.iload_n 1, 1) := by decide +kernel
theorem dk_Md_price_127 : decode mi_Md_price.2.1 127 = .ok (.invokevirtual 177, 3) := by decide +kernel
theorem dk_Md_price_130 : decode mi_Md_price.2.1 130 = .ok (.aload_n 0, 1) := by decide +kernel
theorem dk_Md_price_131 : decode mi_Md_price.2.1 131 = .ok (.getfield 118, 3) := by decide +kernel
theorem dk_Md_price_134 : decode mi_Md_price.2.1 134 = .ok (.iconst 2, 1) := by decide +kernel
theorem dk_Md_price_135 : decode mi_Md_price.2.1 135 = .ok (.idiv, 1) := by decide +kernel
theorem dk_Md_price_136 : decode mi_Md_price.2.1 136 = .ok (.iadd, 1) := by decide +kernel
theorem dk_Md_price_137 : decode mi_Md_price.2.1 137 = .ok (.ireturn, 1) := by decide +kernel
theorem dk_Md_price_138 : decode mi_Md_price.2.1 138 = .ok (.aload_n 0, 1) := by decide +kernel
theorem dk_Md_price_139 : decode mi_Md_price.2.1 139 = .ok (.getfield 32, 3) := by decide +kernel
theorem dk_Md_price_142 : decode mi_Md_price.2.1 142 = .ok (.iload_n 1, 1) := by decide +kernel
theorem dk_Md_price_143 : decode mi_Md_price.2.1 143 = .ok (.iaload, 1) := by decide +kernel
theorem dk_Md_price_144 : decode mi_Md_price.2.1 144 = .ok (.aload_n 0, 1) := by decide +kernel
theorem dk_Md_price_145 : decode mi_Md_price.2.1 145 = .ok (.getfield 118, 3) := by decide +kernel
theorem dk_Md_price_148 : decode mi_Md_price.2.1 148 = .ok (.iadd, 1) := by decide +kernel
theorem dk_Md_price_149 : decode mi_Md_price.2.1 149 = .ok (.ireturn, 1) := by decide +kernel
def Md_price (p1 : Int32) (σ : nm_St) : Option (Int32 × nm_St) :=
  (nm_g (nm_in p1 8) (
  (if (σ.1 72 p1.toNatClampNeg) = (1 : Int32) then
    (nm_g (nm_in p1 8) (
    ((Md_kinHome p1 σ).bind fun q4 =>
    some ((((σ.1 74 p1.toNatClampNeg) + (σ.1 70 2)) + ((5 : Int32) * q4.1)), q4.2))))
  else
  (if (σ.1 72 p1.toNatClampNeg) = (2 : Int32) then
    (nm_g (nm_in p1 8) (
    (nm_g (!decide ((2 : Int32) = 0)) (
    some ((((σ.1 74 p1.toNatClampNeg) / (2 : Int32)) + (σ.1 70 2)), σ)))))
  else
  (if (σ.1 72 p1.toNatClampNeg) = (3 : Int32) then
    (nm_g (nm_in p1 8) (
    ((Md_kinHome p1 σ).bind fun q7 =>
    (nm_g (nm_in p1 8) (
    some (((((σ.1 74 p1.toNatClampNeg) + (σ.1 70 2)) + ((5 : Int32) * q7.1)) + ((3 : Int32) * (q7.2.1 73 p1.toNatClampNeg))), q7.2))))))
  else
  (if (σ.1 72 p1.toNatClampNeg) = (4 : Int32) then
    ((Md_less p1 σ).bind fun q9 =>
    some ((q9.1 + (q9.2.1 70 2)), q9.2))
  else
  (if (σ.1 72 p1.toNatClampNeg) = (5 : Int32) then
    (nm_g (nm_in p1 8) (
    some ((σ.1 73 p1.toNatClampNeg), σ)))
  else
  (if (σ.1 72 p1.toNatClampNeg) = (6 : Int32) then
    ((Md_less p1 σ).bind fun q11 =>
    (nm_g (!decide ((2 : Int32) = 0)) (
    some ((q11.1 + ((q11.2.1 70 2) / (2 : Int32))), q11.2))))
  else
    (nm_g (nm_in p1 8) (
    some (((σ.1 74 p1.toNatClampNeg) + (σ.1 70 2)), σ)))))))))))
set_option maxRecDepth 100000 in
set_option maxHeartbeats 4000000 in
theorem ct_Md_price (X : nm_X) (p1 : Int32) (σ : nm_St) : Ct X mi_Md_price 2 nm_wI [.ref 70, .int p1] σ (Md_price p1 σ) := by
  refine Ct.of (by decide +kernel) rfl (fun F hF0 => ?_)
  unfold Md_price
  refine rn_aload_n (pc := 0) 0 dk_Md_price_0 rfl rfl rfl ?_
  refine gf_Md_26 (pc := 1) rfl dk_Md_price_1 ?_
  refine rn_iload_n (pc := 4) 1 dk_Md_price_4 rfl rfl ?_
  refine rn_iaload (pc := 5) rfl dk_Md_price_5 (fun g1 => ?_)
  refine rn_tcase (pc := 6) 0 (1 : Int32) 44 dk_Md_price_6 (by decide) (by decide) rfl (by decide) (fun c2_0 => ?_) (fun c2_0 => ?_)
  · refine rn_aload_n (pc := 44) 0 dk_Md_price_44 rfl rfl rfl ?_
    refine gf_Md_32 (pc := 45) rfl dk_Md_price_45 ?_
    refine rn_iload_n (pc := 48) 1 dk_Md_price_48 rfl rfl ?_
    refine rn_iaload (pc := 49) rfl dk_Md_price_49 (fun g3 => ?_)
    refine rn_aload_n (pc := 50) 0 dk_Md_price_50 rfl rfl rfl ?_
    refine gf_Md_118 (pc := 51) rfl dk_Md_price_51 ?_
    refine rn_iadd (pc := 54) dk_Md_price_54 ?_
    refine rn_iconst (pc := 55) (5 : Int32) dk_Md_price_55 cn_i_5 ?_
    refine rn_aload_n (pc := 56) 0 dk_Md_price_56 rfl rfl rfl ?_
    refine rn_iload_n (pc := 57) 1 dk_Md_price_57 rfl rfl ?_
    refine cl_Md_104 (pc := 58) (As := [.int p1]) (st := [.int (5 : Int32), .int ((σ.1 74 p1.toNatClampNeg) + (σ.1 70 2))]) rfl (ct_Md_kinHome X p1 σ) (Nat.le_trans (Nat.le_of_ble_eq_true rfl) hF0) rfl rfl (Nat.le_of_ble_eq_true rfl) dk_Md_price_58 (fun q4 => ?_)
    refine rn_imul (pc := 61) dk_Md_price_61 ?_
    refine rn_iadd (pc := 62) dk_Md_price_62 ?_
    exact rn_iret rfl dk_Md_price_63
  refine rn_tcase (pc := 6) 1 (2 : Int32) 93 dk_Md_price_6 (by decide) (by decide) rfl (by decide) (fun c2_1 => ?_) (fun c2_1 => ?_)
  · refine rn_aload_n (pc := 93) 0 dk_Md_price_93 rfl rfl rfl ?_
    refine gf_Md_32 (pc := 94) rfl dk_Md_price_94 ?_
    refine rn_iload_n (pc := 97) 1 dk_Md_price_97 rfl rfl ?_
    refine rn_iaload (pc := 98) rfl dk_Md_price_98 (fun g5 => ?_)
    refine rn_iconst (pc := 99) (2 : Int32) dk_Md_price_99 cn_i_2 ?_
    refine rn_idiv (pc := 100) dk_Md_price_100 ?_
    refine rn_aload_n (pc := 101) 0 dk_Md_price_101 rfl rfl rfl ?_
    refine gf_Md_118 (pc := 102) rfl dk_Md_price_102 ?_
    refine rn_iadd (pc := 105) dk_Md_price_105 ?_
    exact rn_iret rfl dk_Md_price_106
  refine rn_tcase (pc := 6) 2 (3 : Int32) 64 dk_Md_price_6 (by decide) (by decide) rfl (by decide) (fun c2_2 => ?_) (fun c2_2 => ?_)
  · refine rn_aload_n (pc := 64) 0 dk_Md_price_64 rfl rfl rfl ?_
    refine gf_Md_32 (pc := 65) rfl dk_Md_price_65 ?_
    refine rn_iload_n (pc := 68) 1 dk_Md_price_68 rfl rfl ?_
    refine rn_iaload (pc := 69) rfl dk_Md_price_69 (fun g6 => ?_)
    refine rn_aload_n (pc := 70) 0 dk_Md_price_70 rfl rfl rfl ?_
    refine gf_Md_118 (pc := 71) rfl dk_Md_price_71 ?_
    refine rn_iadd (pc := 74) dk_Md_price_74 ?_
    refine rn_iconst (pc := 75) (5 : Int32) dk_Md_price_75 cn_i_5 ?_
    refine rn_aload_n (pc := 76) 0 dk_Md_price_76 rfl rfl rfl ?_
    refine rn_iload_n (pc := 77) 1 dk_Md_price_77 rfl rfl ?_
    refine cl_Md_104 (pc := 78) (As := [.int p1]) (st := [.int (5 : Int32), .int ((σ.1 74 p1.toNatClampNeg) + (σ.1 70 2))]) rfl (ct_Md_kinHome X p1 σ) (Nat.le_trans (Nat.le_of_ble_eq_true rfl) hF0) rfl rfl (Nat.le_of_ble_eq_true rfl) dk_Md_price_78 (fun q7 => ?_)
    refine rn_imul (pc := 81) dk_Md_price_81 ?_
    refine rn_iadd (pc := 82) dk_Md_price_82 ?_
    refine rn_iconst (pc := 83) (3 : Int32) dk_Md_price_83 cn_i_3 ?_
    refine rn_aload_n (pc := 84) 0 dk_Md_price_84 rfl rfl rfl ?_
    refine gf_Md_29 (pc := 85) rfl dk_Md_price_85 ?_
    refine rn_iload_n (pc := 88) 1 dk_Md_price_88 rfl rfl ?_
    refine rn_iaload (pc := 89) rfl dk_Md_price_89 (fun g8 => ?_)
    refine rn_imul (pc := 90) dk_Md_price_90 ?_
    refine rn_iadd (pc := 91) dk_Md_price_91 ?_
    exact rn_iret rfl dk_Md_price_92
  refine rn_tcase (pc := 6) 3 (4 : Int32) 114 dk_Md_price_6 (by decide) (by decide) rfl (by decide) (fun c2_3 => ?_) (fun c2_3 => ?_)
  · refine rn_aload_n (pc := 114) 0 dk_Md_price_114 rfl rfl rfl ?_
    refine rn_iload_n (pc := 115) 1 dk_Md_price_115 rfl rfl ?_
    refine cl_Md_177 (pc := 116) (As := [.int p1]) (st := []) rfl (ct_Md_less X p1 σ) (Nat.le_trans (Nat.le_of_ble_eq_true rfl) hF0) rfl rfl (Nat.le_of_ble_eq_true rfl) dk_Md_price_116 (fun q9 => ?_)
    refine rn_aload_n (pc := 119) 0 dk_Md_price_119 rfl rfl rfl ?_
    refine gf_Md_118 (pc := 120) rfl dk_Md_price_120 ?_
    refine rn_iadd (pc := 123) dk_Md_price_123 ?_
    exact rn_iret rfl dk_Md_price_124
  refine rn_tcase (pc := 6) 4 (5 : Int32) 107 dk_Md_price_6 (by decide) (by decide) rfl (by decide) (fun c2_4 => ?_) (fun c2_4 => ?_)
  · refine rn_aload_n (pc := 107) 0 dk_Md_price_107 rfl rfl rfl ?_
    refine gf_Md_29 (pc := 108) rfl dk_Md_price_108 ?_
    refine rn_iload_n (pc := 111) 1 dk_Md_price_111 rfl rfl ?_
    refine rn_iaload (pc := 112) rfl dk_Md_price_112 (fun g10 => ?_)
    exact rn_iret rfl dk_Md_price_113
  refine rn_tcase (pc := 6) 5 (6 : Int32) 125 dk_Md_price_6 (by decide) (by decide) rfl (by decide) (fun c2_5 => ?_) (fun c2_5 => ?_)
  · refine rn_aload_n (pc := 125) 0 dk_Md_price_125 rfl rfl rfl ?_
    refine rn_iload_n (pc := 126) 1 dk_Md_price_126 rfl rfl ?_
    refine cl_Md_177 (pc := 127) (As := [.int p1]) (st := []) rfl (ct_Md_less X p1 σ) (Nat.le_trans (Nat.le_of_ble_eq_true rfl) hF0) rfl rfl (Nat.le_of_ble_eq_true rfl) dk_Md_price_127 (fun q11 => ?_)
    refine rn_aload_n (pc := 130) 0 dk_Md_price_130 rfl rfl rfl ?_
    refine gf_Md_118 (pc := 131) rfl dk_Md_price_131 ?_
    refine rn_iconst (pc := 134) (2 : Int32) dk_Md_price_134 cn_i_2 ?_
    refine rn_idiv (pc := 135) dk_Md_price_135 ?_
    refine rn_iadd (pc := 136) dk_Md_price_136 ?_
    exact rn_iret rfl dk_Md_price_137
  refine rn_tdef (pc := 6) [(1 : Int32), (2 : Int32), (3 : Int32), (4 : Int32), (5 : Int32), (6 : Int32)] 138 dk_Md_price_6 (by decide) (by decide) (List.forall_mem_cons.mpr ⟨c2_0, (List.forall_mem_cons.mpr ⟨c2_1, (List.forall_mem_cons.mpr ⟨c2_2, (List.forall_mem_cons.mpr ⟨c2_3, (List.forall_mem_cons.mpr ⟨c2_4, (List.forall_mem_cons.mpr ⟨c2_5, (fun _ h => absurd h List.not_mem_nil)⟩)⟩)⟩)⟩)⟩)⟩) (by decide) ?_
  refine rn_aload_n (pc := 138) 0 dk_Md_price_138 rfl rfl rfl ?_
  refine gf_Md_32 (pc := 139) rfl dk_Md_price_139 ?_
  refine rn_iload_n (pc := 142) 1 dk_Md_price_142 rfl rfl ?_
  refine rn_iaload (pc := 143) rfl dk_Md_price_143 (fun g12 => ?_)
  refine rn_aload_n (pc := 144) 0 dk_Md_price_144 rfl rfl rfl ?_
  refine gf_Md_118 (pc := 145) rfl dk_Md_price_145 ?_
  refine rn_iadd (pc := 148) dk_Md_price_148 ?_
  exact rn_iret rfl dk_Md_price_149
theorem dk_Md_says_0 : decode mi_Md_says.2.1 0 = .ok (.aload_n 0, 1) := by decide +kernel
theorem dk_Md_says_1 : decode mi_Md_says.2.1 1 = .ok (.iload_n 1, 1) := by decide +kernel
theorem dk_Md_says_2 : decode mi_Md_says.2.1 2 = .ok (.invokevirtual 93, 3) := by decide +kernel
theorem dk_Md_says_5 : decode mi_Md_says.2.1 5 = .ok (.ifCond .eq 13, 3) := by decide +kernel
theorem dk_Md_says_8 : decode mi_Md_says.2.1 8 = .ok (.iload_n 2, 1) := by decide +kernel
theorem dk_Md_says_9 : decode mi_Md_says.2.1 9 = .ok (.ifCond .lt 9, 3) := by decide +kernel
theorem dk_Md_says_12 : decode mi_Md_says.2.1 12 = .ok (.iload_n 2, 1) := by decide +kernel
theorem dk_Md_says_13 : decode mi_Md_says.2.1 13 = .ok (.bipush 6, 2) := by decide +kernel
theorem dk_Md_says_15 : decode mi_Md_says.2.1 15 = .ok (.if_icmp .le 9, 3) := by decide +kernel
theorem dk_Md_says_18 : decode mi_Md_says.2.1 18 = .ok (.aload_n 0, 1) := by decide +kernel
theorem dk_Md_says_19 : decode mi_Md_says.2.1 19 = .ok (.iconst (-1), 1) := by decide +kernel
theorem dk_Md_says_20 : decode mi_Md_says.2.1 20 = .ok (.invokevirtual 97, 3) := by decide +kernel
theorem dk_Md_says_23 : decode mi_Md_says.2.1 23 = .ok (.ireturn, 1) := by decide +kernel
theorem dk_Md_says_24 : decode mi_Md_says.2.1 24 = .ok (.aload_n 0, 1) := by decide +kernel
theorem dk_Md_says_25 : decode mi_Md_says.2.1 25 = .ok (.getfield 44, 3) := by decide +kernel
theorem dk_Md_says_28 : decode mi_Md_says.2.1 28 = .ok (.iload_n 1, 1) := by decide +kernel
theorem dk_Md_says_29 : decode mi_Md_says.2.1 29 = .ok (.iaload, 1) := by decide +kernel
theorem dk_Md_says_30 : decode mi_Md_says.2.1 30 = .ok (.iconst 1, 1) := by decide +kernel
theorem dk_Md_says_31 : decode mi_Md_says.2.1 31 = .ok (.if_icmp .ne 10, 3) := by decide +kernel
theorem dk_Md_says_34 : decode mi_Md_says.2.1 34 = .ok (.aload_n 0, 1) := by decide +kernel
theorem dk_Md_says_35 : decode mi_Md_says.2.1 35 = .ok (.bipush (-2), 2) := by decide +kernel
theorem dk_Md_says_37 : decode mi_Md_says.2.1 37 = .ok (.invokevirtual 97, 3) := by decide +kernel
theorem dk_Md_says_40 : decode mi_Md_says.2.1 40 = .ok (.ireturn, 1) := by decide +kernel
theorem dk_Md_says_41 : decode mi_Md_says.2.1 41 = .ok (.aload_n 0, 1) := by decide +kernel
theorem dk_Md_says_42 : decode mi_Md_says.2.1 42 = .ok (.getfield 44, 3) := by decide +kernel
theorem dk_Md_says_45 : decode mi_Md_says.2.1 45 = .ok (.iload_n 1, 1) := by decide +kernel
theorem dk_Md_says_46 : decode mi_Md_says.2.1 46 = .ok (.iaload, 1) := by decide +kernel
theorem dk_Md_says_47 : decode mi_Md_says.2.1 47 = .ok (.ifCond .ne 10, 3) := by decide +kernel
theorem dk_Md_says_50 : decode mi_Md_says.2.1 50 = .ok (.aload_n 0, 1) := by decide +kernel
theorem dk_Md_says_51 : decode mi_Md_says.2.1 51 = .ok (.bipush (-3), 2) := by decide +kernel
theorem dk_Md_says_53 : decode mi_Md_says.2.1 53 = .ok (.invokevirtual 97, 3) := by decide +kernel
theorem dk_Md_says_56 : decode mi_Md_says.2.1 56 = .ok (.ireturn, 1) := by decide +kernel
theorem dk_Md_says_57 : decode mi_Md_says.2.1 57 = .ok (.aload_n 0, 1) := by decide +kernel
theorem dk_Md_says_58 : decode mi_Md_says.2.1 58 = .ok (.getfield 53, 3) := by decide +kernel
theorem dk_Md_says_61 : decode mi_Md_says.2.1 61 = .ok (.iload_n 1, 1) := by decide +kernel
theorem dk_Md_says_62 : decode mi_Md_says.2.1 62 = .ok (.iaload, 1) := by decide +kernel
theorem dk_Md_says_63 : decode mi_Md_says.2.1 63 = .ok (.istore_n 3, 1) := by decide +kernel
theorem dk_Md_says_64 : decode mi_Md_says.2.1 64 = .ok (.aload_n 0, 1) := by decide +kernel
theorem dk_Md_says_65 : decode mi_Md_says.2.1 65 = .ok (.getfield 26, 3) := by decide +kernel
theorem dk_Md_says_68 : decode mi_Md_says.2.1 68 = .ok (.iload_n 3, 1) := by decide +kernel
theorem dk_Md_says_69 : decode mi_Md_says.2.1 69 = .ok (.iaload, 1) := by decide +kernel
theorem dk_Md_says_70 : decode mi_Md_says.2.1 70 = .ok (.istore 4, 2) := by decide +kernel
theorem dk_Md_says_72 : decode mi_Md_says.2.1 72 = .ok (.iload_n 2, 1) := by decide +kernel
theorem dk_Md_says_73 : decode mi_Md_says.2.1 73 = .ok (.iconst 1, 1) := by decide +kernel
theorem dk_Md_says_74 : decode mi_Md_says.2.1 74 = .ok (.if_icmp .ne 9, 3) := by decide +kernel
theorem dk_Md_says_77 : decode mi_Md_says.2.1 77 = .ok (.iload 4, 2) := by decide +kernel
theorem dk_Md_says_79 : decode mi_Md_says.2.1 79 = .ok (.iconst 3, 1) := by decide +kernel
theorem dk_Md_says_80 : decode mi_Md_says.2.1 80 = .ok (.if_icmp .eq 26, 3) := by decide +kernel
theorem dk_Md_says_83 : decode mi_Md_says.2.1 83 = .ok (.iload_n 2, 1) := by decide +kernel
theorem dk_Md_says_84 : decode mi_Md_says.2.1 84 = .ok (.iconst 2, 1) := by decide +kernel
theorem dk_Md_says_85 : decode mi_Md_says.2.1 85 = .ok (.if_icmp .ne 9, 3) := by decide +kernel
theorem dk_Md_says_88 : decode mi_Md_says.2.1 88 = .ok (.iload 4, 2) := by decide +kernel
theorem dk_Md_says_90 : decode mi_Md_says.2.1 90 = .ok (.iconst 5, 1) := by decide +kernel
theorem dk_Md_says_91 : decode mi_Md_says.2.1 91 = .ok (.if_icmp .eq 15, 3) := by decide +kernel
theorem dk_Md_says_94 : decode mi_Md_says.2.1 94 = .ok (.iload_n 2, 1) := by decide +kernel
theorem dk_Md_says_95 : decode mi_Md_says.2.1 95 = .ok (.iconst 4, 1) := by decide +kernel
theorem dk_Md_says_96 : decode mi_Md_says.2.1 96 = .ok (.if_icmp .ne 14, 3) := by decide +kernel
theorem dk_Md_says_99 : decode mi_Md_says.2.1 99 = .ok (.iload 4, 2) := by decide +kernel
theorem dk_Md_says_101 : decode mi_Md_says.2.1 101 = .ok (.bipush 6, 2) := by decide +kernel
theorem dk_Md_says_103 : decode mi_Md_says.2.1 103 = .ok (.if_icmp .ne 7, 3) := by decide +kernel
theorem dk_Md_says_106 : decode mi_Md_says.2.1 106 = .ok (.iconst 1, 1) := by decide +kernel
theorem dk_Md_says_107 : decode mi_Md_says.2.1 107 = .ok (.goto 4, 3) := by decide +kernel
theorem dk_Md_says_110 : decode mi_Md_says.2.1 110 = .ok (.iconst 0, 1) := by decide +kernel
theorem dk_Md_says_111 : decode mi_Md_says.2.1 111 = .ok (.istore 5, 2) := by decide +kernel
theorem dk_Md_says_113 : decode mi_Md_says.2.1 113 = .ok (.iload_n 2, 1) := by decide +kernel
theorem dk_Md_says_114 : decode mi_Md_says.2.1 114 = .ok (.ifCond .eq 21, 3) := by decide +kernel
theorem dk_Md_says_117 : decode mi_Md_says.2.1 117 = .ok (.iload_n 2, 1) := by decide +kernel
theorem dk_Md_says_118 : decode mi_Md_says.2.1 118 = .ok (.iload 4, 2) := by decide +kernel
theorem dk_Md_says_120 : decode mi_Md_says.2.1 120 = .ok (.if_icmp .eq 15, 3) := by decide +kernel
theorem dk_Md_says_123 : decode mi_Md_says.2.1 123 = .ok (.iload 5, 2) := by decide +kernel
theorem dk_Md_says_125 : decode mi_Md_says.2.1 125 = .ok (.ifCond .ne 10, 3) := by decide +kernel
theorem dk_Md_says_128 : decode mi_Md_says.2.1 128 = .ok (.aload_n 0, 1) := by decide +kernel
theorem dk_Md_says_129 : decode mi_Md_says.2.1 129 = .ok (.bipush (-2), 2) := by decide +kernel
theorem dk_Md_says_131 : decode mi_Md_says.2.1 131 = .ok (.invokevirtual 97, 3) := by decide +kernel
theorem dk_Md_says_134 : decode mi_Md_says.2.1 134 = .ok (.ireturn, 1) := by decide +kernel
theorem dk_Md_says_135 : decode mi_Md_says.2.1 135 = .ok (.iload_n 2, 1) := by decide +kernel
theorem dk_Md_says_136 : decode mi_Md_says.2.1 136 = .ok (.tableswitch 69 0 5 #[40, 47, 53, 47, 69, 53], 40) := by decide +kernel
theorem dk_Md_says_176 : decode mi_Md_says.2.1 176 = .ok (.aload_n 0, 1) := by decide +kernel
theorem dk_Md_says_177 : decode mi_Md_says.2.1 177 = .ok (.getfield 32, 3) := by decide +kernel
theorem dk_Md_says_180 : decode mi_Md_says.2.1 180 = .ok (.iload_n 3, 1) := by decide +kernel
theorem dk_Md_says_181 : decode mi_Md_says.2.1 181 = .ok (.iaload, 1) := by decide +kernel
theorem dk_Md_says_182 : decode mi_Md_says.2.1 182 = .ok (.ireturn, 1) := by decide +kernel
theorem dk_Md_says_183 : decode mi_Md_says.2.1 183 = .ok (.aload_n 0, 1) := by decide +kernel
theorem dk_Md_says_184 : decode mi_Md_says.2.1 184 = .ok (.iload_n 3, 1) := by decide +kernel
theorem dk_Md_says_185 : decode mi_Md_says.2.1 185 = .ok (.invokevirtual 104, 3) := by decide +kernel
theorem dk_Md_says_188 : decode mi_Md_says.2.1 188 = .ok (.ireturn, 1) := by decide +kernel
theorem dk_Md_says_189 : decode mi_Md_says.2.1 189 = .ok (.aload_n 0, 1) := by decide +kernel
theorem dk_Md_says_190 : decode mi_Md_says.2.1 190 = .ok (.getfield 41, 3) := by decide +kernel
theorem dk_Md_says_193 : decode mi_Md_says.2.1 193 = .ok (.iload_n 3, 1) := by decide +kernel
theorem dk_Md_says_194 : decode mi_Md_says.2.1 194 = .ok (.iaload, 1) := by decide +kernel
theorem dk_Md_says_195 : decode mi_Md_says.2.1 195 = .ok (.iconst 1, 1) := by decide +kernel
theorem dk_Md_says_196 : decode mi_Md_says.2.1 196 = .ok (.if_icmp .ne 7, 3) := by decide +kernel
theorem dk_Md_says_199 : decode mi_Md_says.2.1 199 = .ok (.iconst 1, 1) := by decide +kernel
theorem dk_Md_says_200 : decode mi_Md_says.2.1 200 = .ok (.goto 4, 3) := by decide +kernel
theorem dk_Md_says_203 : decode mi_Md_says.2.1 203 = .ok (.iconst 0, 1) := by decide +kernel
theorem dk_Md_says_204 : decode mi_Md_says.2.1 204 = .ok (.ireturn, 1) := by decide +kernel
theorem dk_Md_says_205 : decode mi_Md_says.2.1 205 = .ok (.aload_n 0, 1) := by decide +kernel
theorem dk_Md_says_206 : decode mi_Md_says.2.1 206 = .ok (.iload_n 3, 1) := by decide +kernel
theorem dk_Md_says_207 : decode mi_Md_says.2.1 207 = .ok (.invokevirtual 107, 3) := by decide +kernel
theorem dk_Md_says_210 : decode mi_Md_says.2.1 210 = .ok (.ireturn, 1) := by decide +kernel
def Md_says_j135 (x2 : Int32) (x3 : Int32) (σ : nm_St) : Option (Int32 × nm_St) :=
  (if x2 = (0 : Int32) then
    (nm_g (nm_in x3 8) (
    some ((σ.1 74 x3.toNatClampNeg), σ)))
  else
  (if x2 = (1 : Int32) then
    ((Md_kinHome x3 σ).bind fun q21 =>
    some (q21.1, q21.2))
  else
  (if x2 = (2 : Int32) then
    (nm_g (nm_in x3 8) (
    (if (σ.1 77 x3.toNatClampNeg) = (1 : Int32) then
      some ((1 : Int32), σ)
    else
      some ((0 : Int32), σ))))
  else
  (if x2 = (3 : Int32) then
    ((Md_kinHome x3 σ).bind fun q24 =>
    some (q24.1, q24.2))
  else
  (if x2 = (4 : Int32) then
    ((Md_price x3 σ).bind fun q25 =>
    some (q25.1, q25.2))
  else
  (if x2 = (5 : Int32) then
    (nm_g (nm_in x3 8) (
    (if (σ.1 77 x3.toNatClampNeg) = (1 : Int32) then
      some ((1 : Int32), σ)
    else
      some ((0 : Int32), σ))))
  else
    ((Md_price x3 σ).bind fun q28 =>
    some (q28.1, q28.2))))))))
set_option maxRecDepth 100000 in
set_option maxHeartbeats 4000000 in
theorem r_Md_says_j135 (X : nm_X) (F : nm_F) (hF0 : 3 ≤ nm_d F) (x2 : Int32) (x3 : Int32) (σ : nm_St) : Rn X mi_Md_says F (nm_Qf X F nm_wI) [(0, .ref 70), (2, .int x2), (3, .int x3)] [] 135 σ (Md_says_j135 x2 x3 σ) := by
  unfold Md_says_j135
  refine rn_iload_n (pc := 135) 2 dk_Md_says_135 rfl rfl ?_
  refine rn_tcase (pc := 136) 0 (0 : Int32) 176 dk_Md_says_136 (by decide) (by decide) rfl (by decide) (fun c19_0 => ?_) (fun c19_0 => ?_)
  · refine rn_aload_n (pc := 176) 0 dk_Md_says_176 rfl rfl rfl ?_
    refine gf_Md_32 (pc := 177) rfl dk_Md_says_177 ?_
    refine rn_iload_n (pc := 180) 3 dk_Md_says_180 rfl rfl ?_
    refine rn_iaload (pc := 181) rfl dk_Md_says_181 (fun g20 => ?_)
    exact rn_iret rfl dk_Md_says_182
  refine rn_tcase (pc := 136) 1 (1 : Int32) 183 dk_Md_says_136 (by decide) (by decide) rfl (by decide) (fun c19_1 => ?_) (fun c19_1 => ?_)
  · refine rn_aload_n (pc := 183) 0 dk_Md_says_183 rfl rfl rfl ?_
    refine rn_iload_n (pc := 184) 3 dk_Md_says_184 rfl rfl ?_
    refine cl_Md_104 (pc := 185) (As := [.int x3]) (st := []) rfl (ct_Md_kinHome X x3 σ) (Nat.le_trans (Nat.le_of_ble_eq_true rfl) hF0) rfl rfl (Nat.le_of_ble_eq_true rfl) dk_Md_says_185 (fun q21 => ?_)
    exact rn_iret rfl dk_Md_says_188
  refine rn_tcase (pc := 136) 2 (2 : Int32) 189 dk_Md_says_136 (by decide) (by decide) rfl (by decide) (fun c19_2 => ?_) (fun c19_2 => ?_)
  · refine rn_aload_n (pc := 189) 0 dk_Md_says_189 rfl rfl rfl ?_
    refine gf_Md_41 (pc := 190) rfl dk_Md_says_190 ?_
    refine rn_iload_n (pc := 193) 3 dk_Md_says_193 rfl rfl ?_
    refine rn_iaload (pc := 194) rfl dk_Md_says_194 (fun g22 => ?_)
    refine rn_iconst (pc := 195) (1 : Int32) dk_Md_says_195 cn_i_1 ?_
    refine rn_icmp_ne (pc := 196) 203 dk_Md_says_196 (by decide) (fun c23 => ?_) (fun c23 => ?_)
    · refine rn_iconst (pc := 203) (0 : Int32) dk_Md_says_203 cn_i_0 ?_
      exact rn_iret rfl dk_Md_says_204
    · refine rn_iconst (pc := 199) (1 : Int32) dk_Md_says_199 cn_i_1 ?_
      refine rn_goto (pc := 200) 204 dk_Md_says_200 (by decide) ?_
      exact rn_iret rfl dk_Md_says_204
  refine rn_tcase (pc := 136) 3 (3 : Int32) 183 dk_Md_says_136 (by decide) (by decide) rfl (by decide) (fun c19_3 => ?_) (fun c19_3 => ?_)
  · refine rn_aload_n (pc := 183) 0 dk_Md_says_183 rfl rfl rfl ?_
    refine rn_iload_n (pc := 184) 3 dk_Md_says_184 rfl rfl ?_
    refine cl_Md_104 (pc := 185) (As := [.int x3]) (st := []) rfl (ct_Md_kinHome X x3 σ) (Nat.le_trans (Nat.le_of_ble_eq_true rfl) hF0) rfl rfl (Nat.le_of_ble_eq_true rfl) dk_Md_says_185 (fun q24 => ?_)
    exact rn_iret rfl dk_Md_says_188
  refine rn_tcase (pc := 136) 4 (4 : Int32) 205 dk_Md_says_136 (by decide) (by decide) rfl (by decide) (fun c19_4 => ?_) (fun c19_4 => ?_)
  · refine rn_aload_n (pc := 205) 0 dk_Md_says_205 rfl rfl rfl ?_
    refine rn_iload_n (pc := 206) 3 dk_Md_says_206 rfl rfl ?_
    refine cl_Md_107 (pc := 207) (As := [.int x3]) (st := []) rfl (ct_Md_price X x3 σ) (Nat.le_trans (Nat.le_of_ble_eq_true rfl) hF0) rfl rfl (Nat.le_of_ble_eq_true rfl) dk_Md_says_207 (fun q25 => ?_)
    exact rn_iret rfl dk_Md_says_210
  refine rn_tcase (pc := 136) 5 (5 : Int32) 189 dk_Md_says_136 (by decide) (by decide) rfl (by decide) (fun c19_5 => ?_) (fun c19_5 => ?_)
  · refine rn_aload_n (pc := 189) 0 dk_Md_says_189 rfl rfl rfl ?_
    refine gf_Md_41 (pc := 190) rfl dk_Md_says_190 ?_
    refine rn_iload_n (pc := 193) 3 dk_Md_says_193 rfl rfl ?_
    refine rn_iaload (pc := 194) rfl dk_Md_says_194 (fun g26 => ?_)
    refine rn_iconst (pc := 195) (1 : Int32) dk_Md_says_195 cn_i_1 ?_
    refine rn_icmp_ne (pc := 196) 203 dk_Md_says_196 (by decide) (fun c27 => ?_) (fun c27 => ?_)
    · refine rn_iconst (pc := 203) (0 : Int32) dk_Md_says_203 cn_i_0 ?_
      exact rn_iret rfl dk_Md_says_204
    · refine rn_iconst (pc := 199) (1 : Int32) dk_Md_says_199 cn_i_1 ?_
      refine rn_goto (pc := 200) 204 dk_Md_says_200 (by decide) ?_
      exact rn_iret rfl dk_Md_says_204
  refine rn_tdef (pc := 136) [(0 : Int32), (1 : Int32), (2 : Int32), (3 : Int32), (4 : Int32), (5 : Int32)] 205 dk_Md_says_136 (by decide) (by decide) (List.forall_mem_cons.mpr ⟨c19_0, (List.forall_mem_cons.mpr ⟨c19_1, (List.forall_mem_cons.mpr ⟨c19_2, (List.forall_mem_cons.mpr ⟨c19_3, (List.forall_mem_cons.mpr ⟨c19_4, (List.forall_mem_cons.mpr ⟨c19_5, (fun _ h => absurd h List.not_mem_nil)⟩)⟩)⟩)⟩)⟩)⟩) (by decide) ?_
  refine rn_aload_n (pc := 205) 0 dk_Md_says_205 rfl rfl rfl ?_
  refine rn_iload_n (pc := 206) 3 dk_Md_says_206 rfl rfl ?_
  refine cl_Md_107 (pc := 207) (As := [.int x3]) (st := []) rfl (ct_Md_price X x3 σ) (Nat.le_trans (Nat.le_of_ble_eq_true rfl) hF0) rfl rfl (Nat.le_of_ble_eq_true rfl) dk_Md_says_207 (fun q28 => ?_)
  exact rn_iret rfl dk_Md_says_210
def Md_says_j111 (x2 : Int32) (x3 : Int32) (x4 : Int32) (y0 : Int32) (σ : nm_St) : Option (Int32 × nm_St) :=
  (if x2 = 0 then
    Md_says_j135 x2 x3 σ
  else
    (if x2 = x4 then
      Md_says_j135 x2 x3 σ
    else
      (if y0 = 0 then
        ((Md_no (-2 : Int32) σ).bind fun q31 =>
        some (q31.1, q31.2))
      else
        Md_says_j135 x2 x3 σ)))
set_option maxRecDepth 100000 in
set_option maxHeartbeats 4000000 in
theorem r_Md_says_j111 (X : nm_X) (F : nm_F) (hF0 : 3 ≤ nm_d F) (x2 : Int32) (x3 : Int32) (x4 : Int32) (y0 : Int32) (σ : nm_St) : Rn X mi_Md_says F (nm_Qf X F nm_wI) [(0, .ref 70), (2, .int x2), (3, .int x3), (4, .int x4)] [.int y0] 111 σ (Md_says_j111 x2 x3 x4 y0 σ) := by
  unfold Md_says_j111
  refine rn_istore (pc := 111) dk_Md_says_111 rfl rfl ?_
  refine rn_iload_n (pc := 113) 2 dk_Md_says_113 rfl rfl ?_
  refine rn_if_eq (pc := 114) 135 dk_Md_says_114 (by decide) (fun c18 => ?_) (fun c18 => ?_)
  · exact rn_sub (by rfl) (r_Md_says_j135 X F hF0 x2 x3 σ)
  · refine rn_iload_n (pc := 117) 2 dk_Md_says_117 rfl rfl ?_
    refine rn_iload (pc := 118) dk_Md_says_118 rfl ?_
    refine rn_icmp_eq (pc := 120) 135 dk_Md_says_120 (by decide) (fun c29 => ?_) (fun c29 => ?_)
    · exact rn_sub (by rfl) (r_Md_says_j135 X F hF0 x2 x3 σ)
    · refine rn_iload (pc := 123) dk_Md_says_123 rfl ?_
      refine rn_if_ne (pc := 125) 135 dk_Md_says_125 (by decide) (fun c30 => ?_) (fun c30 => ?_)
      · exact rn_sub (by rfl) (r_Md_says_j135 X F hF0 x2 x3 σ)
      · refine rn_aload_n (pc := 128) 0 dk_Md_says_128 rfl rfl rfl ?_
        refine rn_bipush (pc := 129) (-2 : Int32) dk_Md_says_129 cn_b_m2 ?_
        refine cl_Md_97 (pc := 131) (As := [.int (-2 : Int32)]) (st := []) rfl (ct_Md_no X (-2 : Int32) σ) (Nat.le_trans (Nat.le_of_ble_eq_true rfl) hF0) rfl rfl (Nat.le_of_ble_eq_true rfl) dk_Md_says_131 (fun q31 => ?_)
        exact rn_iret rfl dk_Md_says_134
def Md_says_j110 (x2 : Int32) (x3 : Int32) (x4 : Int32) (σ : nm_St) : Option (Int32 × nm_St) :=
  Md_says_j111 x2 x3 x4 (0 : Int32) σ
set_option maxRecDepth 100000 in
set_option maxHeartbeats 4000000 in
theorem r_Md_says_j110 (X : nm_X) (F : nm_F) (hF0 : 3 ≤ nm_d F) (x2 : Int32) (x3 : Int32) (x4 : Int32) (σ : nm_St) : Rn X mi_Md_says F (nm_Qf X F nm_wI) [(0, .ref 70), (2, .int x2), (3, .int x3), (4, .int x4)] [] 110 σ (Md_says_j110 x2 x3 x4 σ) := by
  unfold Md_says_j110
  refine rn_iconst (pc := 110) (0 : Int32) dk_Md_says_110 cn_i_0 ?_
  exact rn_sub (by rfl) (r_Md_says_j111 X F hF0 x2 x3 x4 (0 : Int32) σ)
def Md_says_j106 (x2 : Int32) (x3 : Int32) (x4 : Int32) (σ : nm_St) : Option (Int32 × nm_St) :=
  Md_says_j111 x2 x3 x4 (1 : Int32) σ
set_option maxRecDepth 100000 in
set_option maxHeartbeats 4000000 in
theorem r_Md_says_j106 (X : nm_X) (F : nm_F) (hF0 : 3 ≤ nm_d F) (x2 : Int32) (x3 : Int32) (x4 : Int32) (σ : nm_St) : Rn X mi_Md_says F (nm_Qf X F nm_wI) [(0, .ref 70), (2, .int x2), (3, .int x3), (4, .int x4)] [] 106 σ (Md_says_j106 x2 x3 x4 σ) := by
  unfold Md_says_j106
  refine rn_iconst (pc := 106) (1 : Int32) dk_Md_says_106 cn_i_1 ?_
  refine rn_goto (pc := 107) 111 dk_Md_says_107 (by decide) ?_
  exact rn_sub (by rfl) (r_Md_says_j111 X F hF0 x2 x3 x4 (1 : Int32) σ)
def Md_says_j94 (x2 : Int32) (x3 : Int32) (x4 : Int32) (σ : nm_St) : Option (Int32 × nm_St) :=
  (if x2 = (4 : Int32) then
    (if x4 = (6 : Int32) then
      Md_says_j106 x2 x3 x4 σ
    else
      Md_says_j110 x2 x3 x4 σ)
  else
    Md_says_j110 x2 x3 x4 σ)
set_option maxRecDepth 100000 in
set_option maxHeartbeats 4000000 in
theorem r_Md_says_j94 (X : nm_X) (F : nm_F) (hF0 : 3 ≤ nm_d F) (x2 : Int32) (x3 : Int32) (x4 : Int32) (σ : nm_St) : Rn X mi_Md_says F (nm_Qf X F nm_wI) [(0, .ref 70), (2, .int x2), (3, .int x3), (4, .int x4)] [] 94 σ (Md_says_j94 x2 x3 x4 σ) := by
  unfold Md_says_j94
  refine rn_iload_n (pc := 94) 2 dk_Md_says_94 rfl rfl ?_
  refine rn_iconst (pc := 95) (4 : Int32) dk_Md_says_95 cn_i_4 ?_
  refine rn_icmp_ne (pc := 96) 110 dk_Md_says_96 (by decide) (fun c17 => ?_) (fun c17 => ?_)
  · exact rn_sub (by rfl) (r_Md_says_j110 X F hF0 x2 x3 x4 σ)
  · refine rn_iload (pc := 99) dk_Md_says_99 rfl ?_
    refine rn_bipush (pc := 101) (6 : Int32) dk_Md_says_101 cn_b_6 ?_
    refine rn_icmp_ne (pc := 103) 110 dk_Md_says_103 (by decide) (fun c32 => ?_) (fun c32 => ?_)
    · exact rn_sub (by rfl) (r_Md_says_j110 X F hF0 x2 x3 x4 σ)
    · exact rn_sub (by rfl) (r_Md_says_j106 X F hF0 x2 x3 x4 σ)
def Md_says_j83 (x2 : Int32) (x3 : Int32) (x4 : Int32) (σ : nm_St) : Option (Int32 × nm_St) :=
  (if x2 = (2 : Int32) then
    (if x4 = (5 : Int32) then
      Md_says_j106 x2 x3 x4 σ
    else
      Md_says_j94 x2 x3 x4 σ)
  else
    Md_says_j94 x2 x3 x4 σ)
set_option maxRecDepth 100000 in
set_option maxHeartbeats 4000000 in
theorem r_Md_says_j83 (X : nm_X) (F : nm_F) (hF0 : 3 ≤ nm_d F) (x2 : Int32) (x3 : Int32) (x4 : Int32) (σ : nm_St) : Rn X mi_Md_says F (nm_Qf X F nm_wI) [(0, .ref 70), (2, .int x2), (3, .int x3), (4, .int x4)] [] 83 σ (Md_says_j83 x2 x3 x4 σ) := by
  unfold Md_says_j83
  refine rn_iload_n (pc := 83) 2 dk_Md_says_83 rfl rfl ?_
  refine rn_iconst (pc := 84) (2 : Int32) dk_Md_says_84 cn_i_2 ?_
  refine rn_icmp_ne (pc := 85) 94 dk_Md_says_85 (by decide) (fun c16 => ?_) (fun c16 => ?_)
  · exact rn_sub (by rfl) (r_Md_says_j94 X F hF0 x2 x3 x4 σ)
  · refine rn_iload (pc := 88) dk_Md_says_88 rfl ?_
    refine rn_iconst (pc := 90) (5 : Int32) dk_Md_says_90 cn_i_5 ?_
    refine rn_icmp_eq (pc := 91) 106 dk_Md_says_91 (by decide) (fun c33 => ?_) (fun c33 => ?_)
    · exact rn_sub (by rfl) (r_Md_says_j106 X F hF0 x2 x3 x4 σ)
    · exact rn_sub (by rfl) (r_Md_says_j94 X F hF0 x2 x3 x4 σ)
def Md_says (p1 : Int32) (p2 : Int32) (σ : nm_St) : Option (Int32 × nm_St) :=
  ((Md_isShelf p1 σ).bind fun q1 =>
  (if q1.1 = 0 then
    ((Md_no (-1 : Int32) q1.2).bind fun q3 =>
    some (q3.1, q3.2))
  else
    (if p2 < 0 then
      ((Md_no (-1 : Int32) q1.2).bind fun q5 =>
      some (q5.1, q5.2))
    else
      (if p2 ≤ (6 : Int32) then
        (nm_g (nm_in p1 8) (
        (if (q1.2.1 78 p1.toNatClampNeg) = (1 : Int32) then
          ((Md_no (-2 : Int32) q1.2).bind fun q36 =>
          some (q36.1, q36.2))
        else
          (nm_g (nm_in p1 8) (
          (if (q1.2.1 78 p1.toNatClampNeg) = 0 then
            ((Md_no (-3 : Int32) q1.2).bind fun q35 =>
            some (q35.1, q35.2))
          else
            (nm_g (nm_in p1 8) (
            (nm_let ((q1.2.1 81 p1.toNatClampNeg)) fun v12 =>
            (nm_g (nm_in v12 8) (
            (nm_let ((q1.2.1 72 v12.toNatClampNeg)) fun v14 =>
            (if p2 = (1 : Int32) then
              (if v14 = (3 : Int32) then
                Md_says_j106 p2 v12 v14 q1.2
              else
                Md_says_j83 p2 v12 v14 q1.2)
            else
              Md_says_j83 p2 v12 v14 q1.2)))))))))))))
      else
        ((Md_no (-1 : Int32) q1.2).bind fun q37 =>
        some (q37.1, q37.2))))))
set_option maxRecDepth 100000 in
set_option maxHeartbeats 4000000 in
theorem ct_Md_says (X : nm_X) (p1 : Int32) (p2 : Int32) (σ : nm_St) : Ct X mi_Md_says 3 nm_wI [.ref 70, .int p1, .int p2] σ (Md_says p1 p2 σ) := by
  refine Ct.of (by decide +kernel) rfl (fun F hF0 => ?_)
  unfold Md_says
  refine rn_aload_n (pc := 0) 0 dk_Md_says_0 rfl rfl rfl ?_
  refine rn_iload_n (pc := 1) 1 dk_Md_says_1 rfl rfl ?_
  refine cl_Md_93 (pc := 2) (As := [.int p1]) (st := []) rfl (ct_Md_isShelf X p1 σ) (Nat.le_trans (Nat.le_of_ble_eq_true rfl) hF0) rfl rfl (Nat.le_of_ble_eq_true rfl) dk_Md_says_2 (fun q1 => ?_)
  refine rn_if_eq (pc := 5) 18 dk_Md_says_5 (by decide) (fun c2 => ?_) (fun c2 => ?_)
  · refine rn_aload_n (pc := 18) 0 dk_Md_says_18 rfl rfl rfl ?_
    refine rn_iconst (pc := 19) (-1 : Int32) dk_Md_says_19 cn_i_m1 ?_
    refine cl_Md_97 (pc := 20) (As := [.int (-1 : Int32)]) (st := []) rfl (ct_Md_no X (-1 : Int32) q1.2) (Nat.le_trans (Nat.le_of_ble_eq_true rfl) hF0) rfl rfl (Nat.le_of_ble_eq_true rfl) dk_Md_says_20 (fun q3 => ?_)
    exact rn_iret rfl dk_Md_says_23
  · refine rn_iload_n (pc := 8) 2 dk_Md_says_8 rfl rfl ?_
    refine rn_if_lt (pc := 9) 18 dk_Md_says_9 (by decide) (fun c4 => ?_) (fun c4 => ?_)
    · refine rn_aload_n (pc := 18) 0 dk_Md_says_18 rfl rfl rfl ?_
      refine rn_iconst (pc := 19) (-1 : Int32) dk_Md_says_19 cn_i_m1 ?_
      refine cl_Md_97 (pc := 20) (As := [.int (-1 : Int32)]) (st := []) rfl (ct_Md_no X (-1 : Int32) q1.2) (Nat.le_trans (Nat.le_of_ble_eq_true rfl) hF0) rfl rfl (Nat.le_of_ble_eq_true rfl) dk_Md_says_20 (fun q5 => ?_)
      exact rn_iret rfl dk_Md_says_23
    · refine rn_iload_n (pc := 12) 2 dk_Md_says_12 rfl rfl ?_
      refine rn_bipush (pc := 13) (6 : Int32) dk_Md_says_13 cn_b_6 ?_
      refine rn_icmp_le (pc := 15) 24 dk_Md_says_15 (by decide) (fun c6 => ?_) (fun c6 => ?_)
      · refine rn_aload_n (pc := 24) 0 dk_Md_says_24 rfl rfl rfl ?_
        refine gf_Md_44 (pc := 25) rfl dk_Md_says_25 ?_
        refine rn_iload_n (pc := 28) 1 dk_Md_says_28 rfl rfl ?_
        refine rn_iaload (pc := 29) rfl dk_Md_says_29 (fun g7 => ?_)
        refine rn_iconst (pc := 30) (1 : Int32) dk_Md_says_30 cn_i_1 ?_
        refine rn_icmp_ne (pc := 31) 41 dk_Md_says_31 (by decide) (fun c8 => ?_) (fun c8 => ?_)
        · refine rn_aload_n (pc := 41) 0 dk_Md_says_41 rfl rfl rfl ?_
          refine gf_Md_44 (pc := 42) rfl dk_Md_says_42 ?_
          refine rn_iload_n (pc := 45) 1 dk_Md_says_45 rfl rfl ?_
          refine rn_iaload (pc := 46) rfl dk_Md_says_46 (fun g9 => ?_)
          refine rn_if_ne (pc := 47) 57 dk_Md_says_47 (by decide) (fun c10 => ?_) (fun c10 => ?_)
          · refine rn_aload_n (pc := 57) 0 dk_Md_says_57 rfl rfl rfl ?_
            refine gf_Md_53 (pc := 58) rfl dk_Md_says_58 ?_
            refine rn_iload_n (pc := 61) 1 dk_Md_says_61 rfl rfl ?_
            refine rn_iaload (pc := 62) rfl dk_Md_says_62 (fun g11 => ?_)
            refine rn_leti (fun v12 => ?_)
            refine rn_istore_n (pc := 63) 3 dk_Md_says_63 rfl rfl rfl ?_
            refine rn_aload_n (pc := 64) 0 dk_Md_says_64 rfl rfl rfl ?_
            refine gf_Md_26 (pc := 65) rfl dk_Md_says_65 ?_
            refine rn_iload_n (pc := 68) 3 dk_Md_says_68 rfl rfl ?_
            refine rn_iaload (pc := 69) rfl dk_Md_says_69 (fun g13 => ?_)
            refine rn_leti (fun v14 => ?_)
            refine rn_istore (pc := 70) dk_Md_says_70 rfl rfl ?_
            refine rn_iload_n (pc := 72) 2 dk_Md_says_72 rfl rfl ?_
            refine rn_iconst (pc := 73) (1 : Int32) dk_Md_says_73 cn_i_1 ?_
            refine rn_icmp_ne (pc := 74) 83 dk_Md_says_74 (by decide) (fun c15 => ?_) (fun c15 => ?_)
            · exact rn_sub (by rfl) (r_Md_says_j83 X F hF0 p2 v12 v14 q1.2)
            · refine rn_iload (pc := 77) dk_Md_says_77 rfl ?_
              refine rn_iconst (pc := 79) (3 : Int32) dk_Md_says_79 cn_i_3 ?_
              refine rn_icmp_eq (pc := 80) 106 dk_Md_says_80 (by decide) (fun c34 => ?_) (fun c34 => ?_)
              · exact rn_sub (by rfl) (r_Md_says_j106 X F hF0 p2 v12 v14 q1.2)
              · exact rn_sub (by rfl) (r_Md_says_j83 X F hF0 p2 v12 v14 q1.2)
          · refine rn_aload_n (pc := 50) 0 dk_Md_says_50 rfl rfl rfl ?_
            refine rn_bipush (pc := 51) (-3 : Int32) dk_Md_says_51 cn_b_m3 ?_
            refine cl_Md_97 (pc := 53) (As := [.int (-3 : Int32)]) (st := []) rfl (ct_Md_no X (-3 : Int32) q1.2) (Nat.le_trans (Nat.le_of_ble_eq_true rfl) hF0) rfl rfl (Nat.le_of_ble_eq_true rfl) dk_Md_says_53 (fun q35 => ?_)
            exact rn_iret rfl dk_Md_says_56
        · refine rn_aload_n (pc := 34) 0 dk_Md_says_34 rfl rfl rfl ?_
          refine rn_bipush (pc := 35) (-2 : Int32) dk_Md_says_35 cn_b_m2 ?_
          refine cl_Md_97 (pc := 37) (As := [.int (-2 : Int32)]) (st := []) rfl (ct_Md_no X (-2 : Int32) q1.2) (Nat.le_trans (Nat.le_of_ble_eq_true rfl) hF0) rfl rfl (Nat.le_of_ble_eq_true rfl) dk_Md_says_37 (fun q36 => ?_)
          exact rn_iret rfl dk_Md_says_40
      · refine rn_aload_n (pc := 18) 0 dk_Md_says_18 rfl rfl rfl ?_
        refine rn_iconst (pc := 19) (-1 : Int32) dk_Md_says_19 cn_i_m1 ?_
        refine cl_Md_97 (pc := 20) (As := [.int (-1 : Int32)]) (st := []) rfl (ct_Md_no X (-1 : Int32) q1.2) (Nat.le_trans (Nat.le_of_ble_eq_true rfl) hF0) rfl rfl (Nat.le_of_ble_eq_true rfl) dk_Md_says_20 (fun q37 => ?_)
        exact rn_iret rfl dk_Md_says_23
theorem dk_Md_addsMaker_0 : decode mi_Md_addsMaker.2.1 0 = .ok (.aload_n 0, 1) := by decide +kernel
theorem dk_Md_addsMaker_1 : decode mi_Md_addsMaker.2.1 1 = .ok (.getfield 26, 3) := by decide +kernel
theorem dk_Md_addsMaker_4 : decode mi_Md_addsMaker.2.1 4 = .ok (.aload_n 0, 1) := by decide +kernel
theorem dk_Md_addsMaker_5 : decode mi_Md_addsMaker.2.1 5 = .ok (.getfield 90, 3) := by decide +kernel
theorem dk_Md_addsMaker_8 : decode mi_Md_addsMaker.2.1 8 = .ok (.iload_n 1, 1) := by decide +kernel
theorem dk_Md_addsMaker_9 : decode mi_Md_addsMaker.2.1 9 = .ok (.iastore, 1) := by decide +kernel
theorem dk_Md_addsMaker_10 : decode mi_Md_addsMaker.2.1 10 = .ok (.aload_n 0, 1) := by decide +kernel
theorem dk_Md_addsMaker_11 : decode mi_Md_addsMaker.2.1 11 = .ok (.getfield 29, 3) := by decide +kernel
theorem dk_Md_addsMaker_14 : decode mi_Md_addsMaker.2.1 14 = .ok (.aload_n 0, 1) := by decide +kernel
theorem dk_Md_addsMaker_15 : decode mi_Md_addsMaker.2.1 15 = .ok (.getfield 90, 3) := by decide +kernel
theorem dk_Md_addsMaker_18 : decode mi_Md_addsMaker.2.1 18 = .ok (.iload_n 2, 1) := by decide +kernel
theorem dk_Md_addsMaker_19 : decode mi_Md_addsMaker.2.1 19 = .ok (.iastore, 1) := by decide +kernel
theorem dk_Md_addsMaker_20 : decode mi_Md_addsMaker.2.1 20 = .ok (.aload_n 0, 1) := by decide +kernel
theorem dk_Md_addsMaker_21 : decode mi_Md_addsMaker.2.1 21 = .ok (.getfield 32, 3) := by decide +kernel
theorem dk_Md_addsMaker_24 : decode mi_Md_addsMaker.2.1 24 = .ok (.aload_n 0, 1) := by decide +kernel
theorem dk_Md_addsMaker_25 : decode mi_Md_addsMaker.2.1 25 = .ok (.getfield 90, 3) := by decide +kernel
theorem dk_Md_addsMaker_28 : decode mi_Md_addsMaker.2.1 28 = .ok (.iload_n 3, 1) := by decide +kernel
theorem dk_Md_addsMaker_29 : decode mi_Md_addsMaker.2.1 29 = .ok (.iastore, 1) := by decide +kernel
theorem dk_Md_addsMaker_30 : decode mi_Md_addsMaker.2.1 30 = .ok (.aload_n 0, 1) := by decide +kernel
theorem dk_Md_addsMaker_31 : decode mi_Md_addsMaker.2.1 31 = .ok (.getfield 35, 3) := by decide +kernel
theorem dk_Md_addsMaker_34 : decode mi_Md_addsMaker.2.1 34 = .ok (.aload_n 0, 1) := by decide +kernel
theorem dk_Md_addsMaker_35 : decode mi_Md_addsMaker.2.1 35 = .ok (.getfield 90, 3) := by decide +kernel
theorem dk_Md_addsMaker_38 : decode mi_Md_addsMaker.2.1 38 = .ok (.iconst 0, 1) := by decide +kernel
theorem dk_Md_addsMaker_39 : decode mi_Md_addsMaker.2.1 39 = .ok (.iastore, 1) := by decide +kernel
theorem dk_Md_addsMaker_40 : decode mi_Md_addsMaker.2.1 40 = .ok (.aload_n 0, 1) := by decide +kernel
theorem dk_Md_addsMaker_41 : decode mi_Md_addsMaker.2.1 41 = .ok (.getfield 38, 3) := by decide +kernel
theorem dk_Md_addsMaker_44 : decode mi_Md_addsMaker.2.1 44 = .ok (.aload_n 0, 1) := by decide +kernel
theorem dk_Md_addsMaker_45 : decode mi_Md_addsMaker.2.1 45 = .ok (.getfield 90, 3) := by decide +kernel
theorem dk_Md_addsMaker_48 : decode mi_Md_addsMaker.2.1 48 = .ok (.iconst 0, 1) := by decide +kernel
theorem dk_Md_addsMaker_49 : decode mi_Md_addsMaker.2.1 49 = .ok (.iastore, 1) := by decide +kernel
theorem dk_Md_addsMaker_50 : decode mi_Md_addsMaker.2.1 50 = .ok (.aload_n 0, 1) := by decide +kernel
theorem dk_Md_addsMaker_51 : decode mi_Md_addsMaker.2.1 51 = .ok (.getfield 41, 3) := by decide +kernel
theorem dk_Md_addsMaker_54 : decode mi_Md_addsMaker.2.1 54 = .ok (.aload_n 0, 1) := by decide +kernel
theorem dk_Md_addsMaker_55 : decode mi_Md_addsMaker.2.1 55 = .ok (.getfield 90, 3) := by decide +kernel
theorem dk_Md_addsMaker_58 : decode mi_Md_addsMaker.2.1 58 = .ok (.iconst 0, 1) := by decide +kernel
theorem dk_Md_addsMaker_59 : decode mi_Md_addsMaker.2.1 59 = .ok (.iastore, 1) := by decide +kernel
theorem dk_Md_addsMaker_60 : decode mi_Md_addsMaker.2.1 60 = .ok (.aload_n 0, 1) := by decide +kernel
theorem dk_Md_addsMaker_61 : decode mi_Md_addsMaker.2.1 61 = .ok (.dup, 1) := by decide +kernel
theorem dk_Md_addsMaker_62 : decode mi_Md_addsMaker.2.1 62 = .ok (.getfield 90, 3) := by decide +kernel
theorem dk_Md_addsMaker_65 : decode mi_Md_addsMaker.2.1 65 = .ok (.dup_x1, 1) := by decide +kernel
theorem dk_Md_addsMaker_66 : decode mi_Md_addsMaker.2.1 66 = .ok (.iconst 1, 1) := by decide +kernel
theorem dk_Md_addsMaker_67 : decode mi_Md_addsMaker.2.1 67 = .ok (.iadd, 1) := by decide +kernel
theorem dk_Md_addsMaker_68 : decode mi_Md_addsMaker.2.1 68 = .ok (.putfield 90, 3) := by decide +kernel
theorem dk_Md_addsMaker_71 : decode mi_Md_addsMaker.2.1 71 = .ok (.ireturn, 1) := by decide +kernel
def Md_addsMaker (p1 : Int32) (p2 : Int32) (p3 : Int32) (σ : nm_St) : Option (Int32 × nm_St) :=
  (nm_g (nm_in (σ.1 70 0) 8) (
  (nm_let (nm_pI σ 72 (σ.1 70 0).toNatClampNeg p1) fun s2 =>
  (nm_g (nm_in (s2.1 70 0) 8) (
  (nm_let (nm_pI s2 73 (s2.1 70 0).toNatClampNeg p2) fun s4 =>
  (nm_g (nm_in (s4.1 70 0) 8) (
  (nm_let (nm_pI s4 74 (s4.1 70 0).toNatClampNeg p3) fun s6 =>
  (nm_g (nm_in (s6.1 70 0) 8) (
  (nm_let (nm_pI s6 75 (s6.1 70 0).toNatClampNeg (0 : Int32)) fun s8 =>
  (nm_g (nm_in (s8.1 70 0) 8) (
  (nm_let (nm_pI s8 76 (s8.1 70 0).toNatClampNeg (0 : Int32)) fun s10 =>
  (nm_g (nm_in (s10.1 70 0) 8) (
  (nm_let (nm_pI s10 77 (s10.1 70 0).toNatClampNeg (0 : Int32)) fun s12 =>
  (nm_let (nm_pI s12 70 0 ((s12.1 70 0) + (1 : Int32))) fun s13 =>
  some ((s12.1 70 0), s13))))))))))))))))))))
set_option maxRecDepth 100000 in
set_option maxHeartbeats 4000000 in
theorem ct_Md_addsMaker (X : nm_X) (p1 : Int32) (p2 : Int32) (p3 : Int32) (σ : nm_St) : Ct X mi_Md_addsMaker 0 nm_wI [.ref 70, .int p1, .int p2, .int p3] σ (Md_addsMaker p1 p2 p3 σ) := by
  refine Ct.of (by decide +kernel) rfl (fun F hF0 => ?_)
  unfold Md_addsMaker
  refine rn_aload_n (pc := 0) 0 dk_Md_addsMaker_0 rfl rfl rfl ?_
  refine gf_Md_26 (pc := 1) rfl dk_Md_addsMaker_1 ?_
  refine rn_aload_n (pc := 4) 0 dk_Md_addsMaker_4 rfl rfl rfl ?_
  refine gf_Md_90 (pc := 5) rfl dk_Md_addsMaker_5 ?_
  refine rn_iload_n (pc := 8) 1 dk_Md_addsMaker_8 rfl rfl ?_
  refine rn_iastore (pc := 9) rfl dk_Md_addsMaker_9 (fun g1 => ?_)
  refine rn_lets (fun s2 => ?_)
  refine rn_aload_n (pc := 10) 0 dk_Md_addsMaker_10 rfl rfl rfl ?_
  refine gf_Md_29 (pc := 11) rfl dk_Md_addsMaker_11 ?_
  refine rn_aload_n (pc := 14) 0 dk_Md_addsMaker_14 rfl rfl rfl ?_
  refine gf_Md_90 (pc := 15) rfl dk_Md_addsMaker_15 ?_
  refine rn_iload_n (pc := 18) 2 dk_Md_addsMaker_18 rfl rfl ?_
  refine rn_iastore (pc := 19) rfl dk_Md_addsMaker_19 (fun g3 => ?_)
  refine rn_lets (fun s4 => ?_)
  refine rn_aload_n (pc := 20) 0 dk_Md_addsMaker_20 rfl rfl rfl ?_
  refine gf_Md_32 (pc := 21) rfl dk_Md_addsMaker_21 ?_
  refine rn_aload_n (pc := 24) 0 dk_Md_addsMaker_24 rfl rfl rfl ?_
  refine gf_Md_90 (pc := 25) rfl dk_Md_addsMaker_25 ?_
  refine rn_iload_n (pc := 28) 3 dk_Md_addsMaker_28 rfl rfl ?_
  refine rn_iastore (pc := 29) rfl dk_Md_addsMaker_29 (fun g5 => ?_)
  refine rn_lets (fun s6 => ?_)
  refine rn_aload_n (pc := 30) 0 dk_Md_addsMaker_30 rfl rfl rfl ?_
  refine gf_Md_35 (pc := 31) rfl dk_Md_addsMaker_31 ?_
  refine rn_aload_n (pc := 34) 0 dk_Md_addsMaker_34 rfl rfl rfl ?_
  refine gf_Md_90 (pc := 35) rfl dk_Md_addsMaker_35 ?_
  refine rn_iconst (pc := 38) (0 : Int32) dk_Md_addsMaker_38 cn_i_0 ?_
  refine rn_iastore (pc := 39) rfl dk_Md_addsMaker_39 (fun g7 => ?_)
  refine rn_lets (fun s8 => ?_)
  refine rn_aload_n (pc := 40) 0 dk_Md_addsMaker_40 rfl rfl rfl ?_
  refine gf_Md_38 (pc := 41) rfl dk_Md_addsMaker_41 ?_
  refine rn_aload_n (pc := 44) 0 dk_Md_addsMaker_44 rfl rfl rfl ?_
  refine gf_Md_90 (pc := 45) rfl dk_Md_addsMaker_45 ?_
  refine rn_iconst (pc := 48) (0 : Int32) dk_Md_addsMaker_48 cn_i_0 ?_
  refine rn_iastore (pc := 49) rfl dk_Md_addsMaker_49 (fun g9 => ?_)
  refine rn_lets (fun s10 => ?_)
  refine rn_aload_n (pc := 50) 0 dk_Md_addsMaker_50 rfl rfl rfl ?_
  refine gf_Md_41 (pc := 51) rfl dk_Md_addsMaker_51 ?_
  refine rn_aload_n (pc := 54) 0 dk_Md_addsMaker_54 rfl rfl rfl ?_
  refine gf_Md_90 (pc := 55) rfl dk_Md_addsMaker_55 ?_
  refine rn_iconst (pc := 58) (0 : Int32) dk_Md_addsMaker_58 cn_i_0 ?_
  refine rn_iastore (pc := 59) rfl dk_Md_addsMaker_59 (fun g11 => ?_)
  refine rn_lets (fun s12 => ?_)
  refine rn_aload_n (pc := 60) 0 dk_Md_addsMaker_60 rfl rfl rfl ?_
  refine rn_dup (pc := 61) dk_Md_addsMaker_61 rfl ?_
  refine gf_Md_90 (pc := 62) rfl dk_Md_addsMaker_62 ?_
  refine rn_dup_x1 (pc := 65) dk_Md_addsMaker_65 rfl rfl ?_
  refine rn_iconst (pc := 66) (1 : Int32) dk_Md_addsMaker_66 cn_i_1 ?_
  refine rn_iadd (pc := 67) dk_Md_addsMaker_67 ?_
  refine pf_Md_90 (pc := 68) rfl dk_Md_addsMaker_68 ?_
  refine rn_lets (fun s13 => ?_)
  exact rn_iret rfl dk_Md_addsMaker_71
theorem dk_Md_maker_0 : decode mi_Md_maker.2.1 0 = .ok (.iload_n 1, 1) := by decide +kernel
theorem dk_Md_maker_1 : decode mi_Md_maker.2.1 1 = .ok (.ifCond .lt 9, 3) := by decide +kernel
theorem dk_Md_maker_4 : decode mi_Md_maker.2.1 4 = .ok (.iload_n 1, 1) := by decide +kernel
theorem dk_Md_maker_5 : decode mi_Md_maker.2.1 5 = .ok (.bipush 6, 2) := by decide +kernel
theorem dk_Md_maker_7 : decode mi_Md_maker.2.1 7 = .ok (.if_icmp .le 9, 3) := by decide +kernel
theorem dk_Md_maker_10 : decode mi_Md_maker.2.1 10 = .ok (.aload_n 0, 1) := by decide +kernel
theorem dk_Md_maker_11 : decode mi_Md_maker.2.1 11 = .ok (.iconst (-1), 1) := by decide +kernel
theorem dk_Md_maker_12 : decode mi_Md_maker.2.1 12 = .ok (.invokevirtual 97, 3) := by decide +kernel
theorem dk_Md_maker_15 : decode mi_Md_maker.2.1 15 = .ok (.ireturn, 1) := by decide +kernel
theorem dk_Md_maker_16 : decode mi_Md_maker.2.1 16 = .ok (.iload_n 2, 1) := by decide +kernel
theorem dk_Md_maker_17 : decode mi_Md_maker.2.1 17 = .ok (.ifCond .lt 19, 3) := by decide +kernel
theorem dk_Md_maker_20 : decode mi_Md_maker.2.1 20 = .ok (.iload_n 2, 1) := by decide +kernel
theorem dk_Md_maker_21 : decode mi_Md_maker.2.1 21 = .ok (.bipush 9, 2) := by decide +kernel
theorem dk_Md_maker_23 : decode mi_Md_maker.2.1 23 = .ok (.if_icmp .gt 13, 3) := by decide +kernel
theorem dk_Md_maker_26 : decode mi_Md_maker.2.1 26 = .ok (.iload_n 3, 1) := by decide +kernel
theorem dk_Md_maker_27 : decode mi_Md_maker.2.1 27 = .ok (.ifCond .lt 9, 3) := by decide +kernel
theorem dk_Md_maker_30 : decode mi_Md_maker.2.1 30 = .ok (.iload_n 3, 1) := by decide +kernel
theorem dk_Md_maker_31 : decode mi_Md_maker.2.1 31 = .ok (.bipush 99, 2) := by decide +kernel
theorem dk_Md_maker_33 : decode mi_Md_maker.2.1 33 = .ok (.if_icmp .le 10, 3) := by decide +kernel
theorem dk_Md_maker_36 : decode mi_Md_maker.2.1 36 = .ok (.aload_n 0, 1) := by decide +kernel
theorem dk_Md_maker_37 : decode mi_Md_maker.2.1 37 = .ok (.bipush (-6), 2) := by decide +kernel
theorem dk_Md_maker_39 : decode mi_Md_maker.2.1 39 = .ok (.invokevirtual 97, 3) := by decide +kernel
theorem dk_Md_maker_42 : decode mi_Md_maker.2.1 42 = .ok (.ireturn, 1) := by decide +kernel
theorem dk_Md_maker_43 : decode mi_Md_maker.2.1 43 = .ok (.aload_n 0, 1) := by decide +kernel
theorem dk_Md_maker_44 : decode mi_Md_maker.2.1 44 = .ok (.getfield 90, 3) := by decide +kernel
theorem dk_Md_maker_47 : decode mi_Md_maker.2.1 47 = .ok (.bipush 8, 2) := by decide +kernel
theorem dk_Md_maker_49 : decode mi_Md_maker.2.1 49 = .ok (.if_icmp .ne 12, 3) := by decide +kernel
theorem dk_Md_maker_52 : decode mi_Md_maker.2.1 52 = .ok (.aload_n 0, 1) := by decide +kernel
theorem dk_Md_maker_53 : decode mi_Md_maker.2.1 53 = .ok (.bipush (-7), 2) := by decide +kernel
theorem dk_Md_maker_55 : decode mi_Md_maker.2.1 55 = .ok (.invokevirtual 97, 3) := by decide +kernel
theorem dk_Md_maker_58 : decode mi_Md_maker.2.1 58 = .ok (.goto 10, 3) := by decide +kernel
theorem dk_Md_maker_61 : decode mi_Md_maker.2.1 61 = .ok (.aload_n 0, 1) := by decide +kernel
theorem dk_Md_maker_62 : decode mi_Md_maker.2.1 62 = .ok (.iload_n 1, 1) := by decide +kernel
theorem dk_Md_maker_63 : decode mi_Md_maker.2.1 63 = .ok (.iload_n 2, 1) := by decide +kernel
theorem dk_Md_maker_64 : decode mi_Md_maker.2.1 64 = .ok (.iload_n 3, 1) := by decide +kernel
theorem dk_Md_maker_65 : decode mi_Md_maker.2.1 65 = .ok (.invokevirtual 110, 3) := by decide +kernel
theorem dk_Md_maker_68 : decode mi_Md_maker.2.1 68 = .ok (.ireturn, 1) := by decide +kernel
def Md_maker (p1 : Int32) (p2 : Int32) (p3 : Int32) (σ : nm_St) : Option (Int32 × nm_St) :=
  (if p1 < 0 then
    ((Md_no (-1 : Int32) σ).bind fun q2 =>
    some (q2.1, q2.2))
  else
    (if p1 ≤ (6 : Int32) then
      (if p2 < 0 then
        ((Md_no (-6 : Int32) σ).bind fun q5 =>
        some (q5.1, q5.2))
      else
        (if (9 : Int32) < p2 then
          ((Md_no (-6 : Int32) σ).bind fun q7 =>
          some (q7.1, q7.2))
        else
          (if p3 < 0 then
            ((Md_no (-6 : Int32) σ).bind fun q9 =>
            some (q9.1, q9.2))
          else
            (if p3 ≤ (99 : Int32) then
              (if (σ.1 70 0) = (8 : Int32) then
                ((Md_no (-7 : Int32) σ).bind fun q13 =>
                some (q13.1, q13.2))
              else
                ((Md_addsMaker p1 p2 p3 σ).bind fun q12 =>
                some (q12.1, q12.2)))
            else
              ((Md_no (-6 : Int32) σ).bind fun q14 =>
              some (q14.1, q14.2))))))
    else
      ((Md_no (-1 : Int32) σ).bind fun q15 =>
      some (q15.1, q15.2))))
set_option maxRecDepth 100000 in
set_option maxHeartbeats 4000000 in
theorem ct_Md_maker (X : nm_X) (p1 : Int32) (p2 : Int32) (p3 : Int32) (σ : nm_St) : Ct X mi_Md_maker 1 nm_wI [.ref 70, .int p1, .int p2, .int p3] σ (Md_maker p1 p2 p3 σ) := by
  refine Ct.of (by decide +kernel) rfl (fun F hF0 => ?_)
  unfold Md_maker
  refine rn_iload_n (pc := 0) 1 dk_Md_maker_0 rfl rfl ?_
  refine rn_if_lt (pc := 1) 10 dk_Md_maker_1 (by decide) (fun c1 => ?_) (fun c1 => ?_)
  · refine rn_aload_n (pc := 10) 0 dk_Md_maker_10 rfl rfl rfl ?_
    refine rn_iconst (pc := 11) (-1 : Int32) dk_Md_maker_11 cn_i_m1 ?_
    refine cl_Md_97 (pc := 12) (As := [.int (-1 : Int32)]) (st := []) rfl (ct_Md_no X (-1 : Int32) σ) (Nat.le_trans (Nat.le_of_ble_eq_true rfl) hF0) rfl rfl (Nat.le_of_ble_eq_true rfl) dk_Md_maker_12 (fun q2 => ?_)
    exact rn_iret rfl dk_Md_maker_15
  · refine rn_iload_n (pc := 4) 1 dk_Md_maker_4 rfl rfl ?_
    refine rn_bipush (pc := 5) (6 : Int32) dk_Md_maker_5 cn_b_6 ?_
    refine rn_icmp_le (pc := 7) 16 dk_Md_maker_7 (by decide) (fun c3 => ?_) (fun c3 => ?_)
    · refine rn_iload_n (pc := 16) 2 dk_Md_maker_16 rfl rfl ?_
      refine rn_if_lt (pc := 17) 36 dk_Md_maker_17 (by decide) (fun c4 => ?_) (fun c4 => ?_)
      · refine rn_aload_n (pc := 36) 0 dk_Md_maker_36 rfl rfl rfl ?_
        refine rn_bipush (pc := 37) (-6 : Int32) dk_Md_maker_37 cn_b_m6 ?_
        refine cl_Md_97 (pc := 39) (As := [.int (-6 : Int32)]) (st := []) rfl (ct_Md_no X (-6 : Int32) σ) (Nat.le_trans (Nat.le_of_ble_eq_true rfl) hF0) rfl rfl (Nat.le_of_ble_eq_true rfl) dk_Md_maker_39 (fun q5 => ?_)
        exact rn_iret rfl dk_Md_maker_42
      · refine rn_iload_n (pc := 20) 2 dk_Md_maker_20 rfl rfl ?_
        refine rn_bipush (pc := 21) (9 : Int32) dk_Md_maker_21 cn_b_9 ?_
        refine rn_icmp_gt (pc := 23) 36 dk_Md_maker_23 (by decide) (fun c6 => ?_) (fun c6 => ?_)
        · refine rn_aload_n (pc := 36) 0 dk_Md_maker_36 rfl rfl rfl ?_
          refine rn_bipush (pc := 37) (-6 : Int32) dk_Md_maker_37 cn_b_m6 ?_
          refine cl_Md_97 (pc := 39) (As := [.int (-6 : Int32)]) (st := []) rfl (ct_Md_no X (-6 : Int32) σ) (Nat.le_trans (Nat.le_of_ble_eq_true rfl) hF0) rfl rfl (Nat.le_of_ble_eq_true rfl) dk_Md_maker_39 (fun q7 => ?_)
          exact rn_iret rfl dk_Md_maker_42
        · refine rn_iload_n (pc := 26) 3 dk_Md_maker_26 rfl rfl ?_
          refine rn_if_lt (pc := 27) 36 dk_Md_maker_27 (by decide) (fun c8 => ?_) (fun c8 => ?_)
          · refine rn_aload_n (pc := 36) 0 dk_Md_maker_36 rfl rfl rfl ?_
            refine rn_bipush (pc := 37) (-6 : Int32) dk_Md_maker_37 cn_b_m6 ?_
            refine cl_Md_97 (pc := 39) (As := [.int (-6 : Int32)]) (st := []) rfl (ct_Md_no X (-6 : Int32) σ) (Nat.le_trans (Nat.le_of_ble_eq_true rfl) hF0) rfl rfl (Nat.le_of_ble_eq_true rfl) dk_Md_maker_39 (fun q9 => ?_)
            exact rn_iret rfl dk_Md_maker_42
          · refine rn_iload_n (pc := 30) 3 dk_Md_maker_30 rfl rfl ?_
            refine rn_bipush (pc := 31) (99 : Int32) dk_Md_maker_31 cn_b_99 ?_
            refine rn_icmp_le (pc := 33) 43 dk_Md_maker_33 (by decide) (fun c10 => ?_) (fun c10 => ?_)
            · refine rn_aload_n (pc := 43) 0 dk_Md_maker_43 rfl rfl rfl ?_
              refine gf_Md_90 (pc := 44) rfl dk_Md_maker_44 ?_
              refine rn_bipush (pc := 47) (8 : Int32) dk_Md_maker_47 cn_b_8 ?_
              refine rn_icmp_ne (pc := 49) 61 dk_Md_maker_49 (by decide) (fun c11 => ?_) (fun c11 => ?_)
              · refine rn_aload_n (pc := 61) 0 dk_Md_maker_61 rfl rfl rfl ?_
                refine rn_iload_n (pc := 62) 1 dk_Md_maker_62 rfl rfl ?_
                refine rn_iload_n (pc := 63) 2 dk_Md_maker_63 rfl rfl ?_
                refine rn_iload_n (pc := 64) 3 dk_Md_maker_64 rfl rfl ?_
                refine cl_Md_110 (pc := 65) (As := [.int p1, .int p2, .int p3]) (st := []) rfl (ct_Md_addsMaker X p1 p2 p3 σ) (Nat.le_trans (Nat.le_of_ble_eq_true rfl) hF0) rfl rfl (Nat.le_of_ble_eq_true rfl) dk_Md_maker_65 (fun q12 => ?_)
                exact rn_iret rfl dk_Md_maker_68
              · refine rn_aload_n (pc := 52) 0 dk_Md_maker_52 rfl rfl rfl ?_
                refine rn_bipush (pc := 53) (-7 : Int32) dk_Md_maker_53 cn_b_m7 ?_
                refine cl_Md_97 (pc := 55) (As := [.int (-7 : Int32)]) (st := []) rfl (ct_Md_no X (-7 : Int32) σ) (Nat.le_trans (Nat.le_of_ble_eq_true rfl) hF0) rfl rfl (Nat.le_of_ble_eq_true rfl) dk_Md_maker_55 (fun q13 => ?_)
                refine rn_goto (pc := 58) 68 dk_Md_maker_58 (by decide) ?_
                exact rn_iret rfl dk_Md_maker_68
            · refine rn_aload_n (pc := 36) 0 dk_Md_maker_36 rfl rfl rfl ?_
              refine rn_bipush (pc := 37) (-6 : Int32) dk_Md_maker_37 cn_b_m6 ?_
              refine cl_Md_97 (pc := 39) (As := [.int (-6 : Int32)]) (st := []) rfl (ct_Md_no X (-6 : Int32) σ) (Nat.le_trans (Nat.le_of_ble_eq_true rfl) hF0) rfl rfl (Nat.le_of_ble_eq_true rfl) dk_Md_maker_39 (fun q14 => ?_)
              exact rn_iret rfl dk_Md_maker_42
    · refine rn_aload_n (pc := 10) 0 dk_Md_maker_10 rfl rfl rfl ?_
      refine rn_iconst (pc := 11) (-1 : Int32) dk_Md_maker_11 cn_i_m1 ?_
      refine cl_Md_97 (pc := 12) (As := [.int (-1 : Int32)]) (st := []) rfl (ct_Md_no X (-1 : Int32) σ) (Nat.le_trans (Nat.le_of_ble_eq_true rfl) hF0) rfl rfl (Nat.le_of_ble_eq_true rfl) dk_Md_maker_12 (fun q15 => ?_)
      exact rn_iret rfl dk_Md_maker_15
theorem dk_Md_parts_0 : decode mi_Md_parts.2.1 0 = .ok (.iload_n 1, 1) := by decide +kernel
theorem dk_Md_parts_1 : decode mi_Md_parts.2.1 1 = .ok (.aload_n 0, 1) := by decide +kernel
theorem dk_Md_parts_2 : decode mi_Md_parts.2.1 2 = .ok (.getfield 7, 3) := by decide +kernel
theorem dk_Md_parts_5 : decode mi_Md_parts.2.1 5 = .ok (.if_icmp .lt 9, 3) := by decide +kernel
theorem dk_Md_parts_8 : decode mi_Md_parts.2.1 8 = .ok (.iload_n 1, 1) := by decide +kernel
theorem dk_Md_parts_9 : decode mi_Md_parts.2.1 9 = .ok (.bipush 8, 2) := by decide +kernel
theorem dk_Md_parts_11 : decode mi_Md_parts.2.1 11 = .ok (.if_icmp .le 10, 3) := by decide +kernel
theorem dk_Md_parts_14 : decode mi_Md_parts.2.1 14 = .ok (.aload_n 0, 1) := by decide +kernel
theorem dk_Md_parts_15 : decode mi_Md_parts.2.1 15 = .ok (.bipush (-6), 2) := by decide +kernel
theorem dk_Md_parts_17 : decode mi_Md_parts.2.1 17 = .ok (.invokevirtual 97, 3) := by decide +kernel
theorem dk_Md_parts_20 : decode mi_Md_parts.2.1 20 = .ok (.ireturn, 1) := by decide +kernel
theorem dk_Md_parts_21 : decode mi_Md_parts.2.1 21 = .ok (.aload_n 0, 1) := by decide +kernel
theorem dk_Md_parts_22 : decode mi_Md_parts.2.1 22 = .ok (.getfield 7, 3) := by decide +kernel
theorem dk_Md_parts_25 : decode mi_Md_parts.2.1 25 = .ok (.istore_n 2, 1) := by decide +kernel
theorem dk_Md_parts_26 : decode mi_Md_parts.2.1 26 = .ok (.aload_n 0, 1) := by decide +kernel
theorem dk_Md_parts_27 : decode mi_Md_parts.2.1 27 = .ok (.iload_n 1, 1) := by decide +kernel
theorem dk_Md_parts_28 : decode mi_Md_parts.2.1 28 = .ok (.putfield 7, 3) := by decide +kernel
theorem dk_Md_parts_31 : decode mi_Md_parts.2.1 31 = .ok (.iload_n 2, 1) := by decide +kernel
theorem dk_Md_parts_32 : decode mi_Md_parts.2.1 32 = .ok (.ireturn, 1) := by decide +kernel
def Md_parts (p1 : Int32) (σ : nm_St) : Option (Int32 × nm_St) :=
  (if p1 < (σ.1 70 1) then
    ((Md_no (-6 : Int32) σ).bind fun q2 =>
    some (q2.1, q2.2))
  else
    (if p1 ≤ (8 : Int32) then
      (nm_let (nm_pI σ 70 1 p1) fun s4 =>
      some ((σ.1 70 1), s4))
    else
      ((Md_no (-6 : Int32) σ).bind fun q5 =>
      some (q5.1, q5.2))))
set_option maxRecDepth 100000 in
set_option maxHeartbeats 4000000 in
theorem ct_Md_parts (X : nm_X) (p1 : Int32) (σ : nm_St) : Ct X mi_Md_parts 1 nm_wI [.ref 70, .int p1] σ (Md_parts p1 σ) := by
  refine Ct.of (by decide +kernel) rfl (fun F hF0 => ?_)
  unfold Md_parts
  refine rn_iload_n (pc := 0) 1 dk_Md_parts_0 rfl rfl ?_
  refine rn_aload_n (pc := 1) 0 dk_Md_parts_1 rfl rfl rfl ?_
  refine gf_Md_7 (pc := 2) rfl dk_Md_parts_2 ?_
  refine rn_icmp_lt (pc := 5) 14 dk_Md_parts_5 (by decide) (fun c1 => ?_) (fun c1 => ?_)
  · refine rn_aload_n (pc := 14) 0 dk_Md_parts_14 rfl rfl rfl ?_
    refine rn_bipush (pc := 15) (-6 : Int32) dk_Md_parts_15 cn_b_m6 ?_
    refine cl_Md_97 (pc := 17) (As := [.int (-6 : Int32)]) (st := []) rfl (ct_Md_no X (-6 : Int32) σ) (Nat.le_trans (Nat.le_of_ble_eq_true rfl) hF0) rfl rfl (Nat.le_of_ble_eq_true rfl) dk_Md_parts_17 (fun q2 => ?_)
    exact rn_iret rfl dk_Md_parts_20
  · refine rn_iload_n (pc := 8) 1 dk_Md_parts_8 rfl rfl ?_
    refine rn_bipush (pc := 9) (8 : Int32) dk_Md_parts_9 cn_b_8 ?_
    refine rn_icmp_le (pc := 11) 21 dk_Md_parts_11 (by decide) (fun c3 => ?_) (fun c3 => ?_)
    · refine rn_aload_n (pc := 21) 0 dk_Md_parts_21 rfl rfl rfl ?_
      refine gf_Md_7 (pc := 22) rfl dk_Md_parts_22 ?_
      refine rn_istore_n (pc := 25) 2 dk_Md_parts_25 rfl rfl rfl ?_
      refine rn_aload_n (pc := 26) 0 dk_Md_parts_26 rfl rfl rfl ?_
      refine rn_iload_n (pc := 27) 1 dk_Md_parts_27 rfl rfl ?_
      refine pf_Md_7 (pc := 28) rfl dk_Md_parts_28 ?_
      refine rn_lets (fun s4 => ?_)
      refine rn_iload_n (pc := 31) 2 dk_Md_parts_31 rfl rfl ?_
      exact rn_iret rfl dk_Md_parts_32
    · refine rn_aload_n (pc := 14) 0 dk_Md_parts_14 rfl rfl rfl ?_
      refine rn_bipush (pc := 15) (-6 : Int32) dk_Md_parts_15 cn_b_m6 ?_
      refine cl_Md_97 (pc := 17) (As := [.int (-6 : Int32)]) (st := []) rfl (ct_Md_no X (-6 : Int32) σ) (Nat.le_trans (Nat.le_of_ble_eq_true rfl) hF0) rfl rfl (Nat.le_of_ble_eq_true rfl) dk_Md_parts_17 (fun q5 => ?_)
      exact rn_iret rfl dk_Md_parts_20
theorem dk_Md_knows_0 : decode mi_Md_knows.2.1 0 = .ok (.aload_n 0, 1) := by decide +kernel
theorem dk_Md_knows_1 : decode mi_Md_knows.2.1 1 = .ok (.iload_n 1, 1) := by decide +kernel
theorem dk_Md_knows_2 : decode mi_Md_knows.2.1 2 = .ok (.invokevirtual 101, 3) := by decide +kernel
theorem dk_Md_knows_5 : decode mi_Md_knows.2.1 5 = .ok (.ifCond .ne 9, 3) := by decide +kernel
theorem dk_Md_knows_8 : decode mi_Md_knows.2.1 8 = .ok (.aload_n 0, 1) := by decide +kernel
theorem dk_Md_knows_9 : decode mi_Md_knows.2.1 9 = .ok (.iconst (-1), 1) := by decide +kernel
theorem dk_Md_knows_10 : decode mi_Md_knows.2.1 10 = .ok (.invokevirtual 97, 3) := by decide +kernel
theorem dk_Md_knows_13 : decode mi_Md_knows.2.1 13 = .ok (.ireturn, 1) := by decide +kernel
theorem dk_Md_knows_14 : decode mi_Md_knows.2.1 14 = .ok (.iload_n 2, 1) := by decide +kernel
theorem dk_Md_knows_15 : decode mi_Md_knows.2.1 15 = .ok (.ifCond .lt 11, 3) := by decide +kernel
theorem dk_Md_knows_18 : decode mi_Md_knows.2.1 18 = .ok (.iload_n 2, 1) := by decide +kernel
theorem dk_Md_knows_19 : decode mi_Md_knows.2.1 19 = .ok (.aload_n 0, 1) := by decide +kernel
theorem dk_Md_knows_20 : decode mi_Md_knows.2.1 20 = .ok (.getfield 7, 3) := by decide +kernel
theorem dk_Md_knows_23 : decode mi_Md_knows.2.1 23 = .ok (.if_icmp .lt 10, 3) := by decide +kernel
theorem dk_Md_knows_26 : decode mi_Md_knows.2.1 26 = .ok (.aload_n 0, 1) := by decide +kernel
theorem dk_Md_knows_27 : decode mi_Md_knows.2.1 27 = .ok (.bipush (-6), 2) := by decide +kernel
theorem dk_Md_knows_29 : decode mi_Md_knows.2.1 29 = .ok (.invokevirtual 97, 3) := by decide +kernel
theorem dk_Md_knows_32 : decode mi_Md_knows.2.1 32 = .ok (.ireturn, 1) := by decide +kernel
theorem dk_Md_knows_33 : decode mi_Md_knows.2.1 33 = .ok (.aload_n 0, 1) := by decide +kernel
theorem dk_Md_knows_34 : decode mi_Md_knows.2.1 34 = .ok (.getfield 35, 3) := by decide +kernel
theorem dk_Md_knows_37 : decode mi_Md_knows.2.1 37 = .ok (.iload_n 1, 1) := by decide +kernel
theorem dk_Md_knows_38 : decode mi_Md_knows.2.1 38 = .ok (.iaload, 1) := by decide +kernel
theorem dk_Md_knows_39 : decode mi_Md_knows.2.1 39 = .ok (.iload_n 2, 1) := by decide +kernel
theorem dk_Md_knows_40 : decode mi_Md_knows.2.1 40 = .ok (.ishr, 1) := by decide +kernel
theorem dk_Md_knows_41 : decode mi_Md_knows.2.1 41 = .ok (.iconst 1, 1) := by decide +kernel
theorem dk_Md_knows_42 : decode mi_Md_knows.2.1 42 = .ok (.iand, 1) := by decide +kernel
theorem dk_Md_knows_43 : decode mi_Md_knows.2.1 43 = .ok (.istore 4, 2) := by decide +kernel
theorem dk_Md_knows_45 : decode mi_Md_knows.2.1 45 = .ok (.aload_n 0, 1) := by decide +kernel
theorem dk_Md_knows_46 : decode mi_Md_knows.2.1 46 = .ok (.getfield 35, 3) := by decide +kernel
theorem dk_Md_knows_49 : decode mi_Md_knows.2.1 49 = .ok (.iload_n 1, 1) := by decide +kernel
theorem dk_Md_knows_50 : decode mi_Md_knows.2.1 50 = .ok (.iload_n 3, 1) := by decide +kernel
theorem dk_Md_knows_51 : decode mi_Md_knows.2.1 51 = .ok (.ifCond .eq 16, 3) := by decide +kernel
theorem dk_Md_knows_54 : decode mi_Md_knows.2.1 54 = .ok (.aload_n 0, 1) := by decide +kernel
theorem dk_Md_knows_55 : decode mi_Md_knows.2.1 55 = .ok (.getfield 35, 3) := by decide +kernel
theorem dk_Md_knows_58 : decode mi_Md_knows.2.1 58 = .ok (.iload_n 1, 1) := by decide +kernel
theorem dk_Md_knows_59 : decode mi_Md_knows.2.1 59 = .ok (.iaload, 1) := by decide +kernel
theorem dk_Md_knows_60 : decode mi_Md_knows.2.1 60 = .ok (.iconst 1, 1) := by decide +kernel
theorem dk_Md_knows_61 : decode mi_Md_knows.2.1 61 = .ok (.iload_n 2, 1) := by decide +kernel
theorem dk_Md_knows_62 : decode mi_Md_knows.2.1 62 = .ok (.ishl, 1) := by decide +kernel
theorem dk_Md_knows_63 : decode mi_Md_knows.2.1 63 = .ok (.ior, 1) := by decide +kernel
theorem dk_Md_knows_64 : decode mi_Md_knows.2.1 64 = .ok (.goto 15, 3) := by decide +kernel
theorem dk_Md_knows_67 : decode mi_Md_knows.2.1 67 = .ok (.aload_n 0, 1) := by decide +kernel
theorem dk_Md_knows_68 : decode mi_Md_knows.2.1 68 = .ok (.getfield 35, 3) := by decide +kernel
theorem dk_Md_knows_71 : decode mi_Md_knows.2.1 71 = .ok (.iload_n 1, 1) := by decide +kernel
theorem dk_Md_knows_72 : decode mi_Md_knows.2.1 72 = .ok (.iaload, 1) := by decide +kernel
theorem dk_Md_knows_73 : decode mi_Md_knows.2.1 73 = .ok (.iconst 1, 1) := by decide +kernel
theorem dk_Md_knows_74 : decode mi_Md_knows.2.1 74 = .ok (.iload_n 2, 1) := by decide +kernel
theorem dk_Md_knows_75 : decode mi_Md_knows.2.1 75 = .ok (.ishl, 1) := by decide +kernel
theorem dk_Md_knows_76 : decode mi_Md_knows.2.1 76 = .ok (.iconst (-1), 1) := by decide +kernel
theorem dk_Md_knows_77 : decode mi_Md_knows.2.1 77 = .ok (.ixor, 1) := by decide +kernel
theorem dk_Md_knows_78 : decode mi_Md_knows.2.1 78 = .ok (.iand, 1) := by decide +kernel
theorem dk_Md_knows_79 : decode mi_Md_knows.2.1 79 = .ok (.iastore, 1) := by decide +kernel
theorem dk_Md_knows_80 : decode mi_Md_knows.2.1 80 = .ok (.iload 4, 2) := by decide +kernel
theorem dk_Md_knows_82 : decode mi_Md_knows.2.1 82 = .ok (.ireturn, 1) := by decide +kernel
def Md_knows (p1 : Int32) (p2 : Int32) (p3 : Int32) (σ : nm_St) : Option (Int32 × nm_St) :=
  ((Md_isMaker p1 σ).bind fun q1 =>
  (if q1.1 = 0 then
    ((Md_no (-1 : Int32) q1.2).bind fun q16 =>
    some (q16.1, q16.2))
  else
    (if p2 < 0 then
      ((Md_no (-6 : Int32) q1.2).bind fun q4 =>
      some (q4.1, q4.2))
    else
      (if p2 < (q1.2.1 70 1) then
        (nm_g (nm_in p1 8) (
        (nm_let ((((q1.2.1 75 p1.toNatClampNeg) >>> (p2 &&& 31)) &&& (1 : Int32))) fun v7 =>
        (if p3 = 0 then
          (nm_g (nm_in p1 8) (
          (nm_g (nm_in p1 8) (
          (nm_let (nm_pI q1.2 75 p1.toNatClampNeg ((q1.2.1 75 p1.toNatClampNeg) &&& (((1 : Int32) <<< (p2 &&& 31)) ^^^ (-1 : Int32)))) fun s11 =>
          some (v7, s11))))))
        else
          (nm_g (nm_in p1 8) (
          (nm_g (nm_in p1 8) (
          (nm_let (nm_pI q1.2 75 p1.toNatClampNeg ((q1.2.1 75 p1.toNatClampNeg) ||| ((1 : Int32) <<< (p2 &&& 31)))) fun s14 =>
          some (v7, s14))))))))))
      else
        ((Md_no (-6 : Int32) q1.2).bind fun q15 =>
        some (q15.1, q15.2))))))
set_option maxRecDepth 100000 in
set_option maxHeartbeats 4000000 in
theorem ct_Md_knows (X : nm_X) (p1 : Int32) (p2 : Int32) (p3 : Int32) (σ : nm_St) : Ct X mi_Md_knows 1 nm_wI [.ref 70, .int p1, .int p2, .int p3] σ (Md_knows p1 p2 p3 σ) := by
  refine Ct.of (by decide +kernel) rfl (fun F hF0 => ?_)
  unfold Md_knows
  refine rn_aload_n (pc := 0) 0 dk_Md_knows_0 rfl rfl rfl ?_
  refine rn_iload_n (pc := 1) 1 dk_Md_knows_1 rfl rfl ?_
  refine cl_Md_101 (pc := 2) (As := [.int p1]) (st := []) rfl (ct_Md_isMaker X p1 σ) (Nat.le_trans (Nat.le_of_ble_eq_true rfl) hF0) rfl rfl (Nat.le_of_ble_eq_true rfl) dk_Md_knows_2 (fun q1 => ?_)
  refine rn_if_ne (pc := 5) 14 dk_Md_knows_5 (by decide) (fun c2 => ?_) (fun c2 => ?_)
  · refine rn_iload_n (pc := 14) 2 dk_Md_knows_14 rfl rfl ?_
    refine rn_if_lt (pc := 15) 26 dk_Md_knows_15 (by decide) (fun c3 => ?_) (fun c3 => ?_)
    · refine rn_aload_n (pc := 26) 0 dk_Md_knows_26 rfl rfl rfl ?_
      refine rn_bipush (pc := 27) (-6 : Int32) dk_Md_knows_27 cn_b_m6 ?_
      refine cl_Md_97 (pc := 29) (As := [.int (-6 : Int32)]) (st := []) rfl (ct_Md_no X (-6 : Int32) q1.2) (Nat.le_trans (Nat.le_of_ble_eq_true rfl) hF0) rfl rfl (Nat.le_of_ble_eq_true rfl) dk_Md_knows_29 (fun q4 => ?_)
      exact rn_iret rfl dk_Md_knows_32
    · refine rn_iload_n (pc := 18) 2 dk_Md_knows_18 rfl rfl ?_
      refine rn_aload_n (pc := 19) 0 dk_Md_knows_19 rfl rfl rfl ?_
      refine gf_Md_7 (pc := 20) rfl dk_Md_knows_20 ?_
      refine rn_icmp_lt (pc := 23) 33 dk_Md_knows_23 (by decide) (fun c5 => ?_) (fun c5 => ?_)
      · refine rn_aload_n (pc := 33) 0 dk_Md_knows_33 rfl rfl rfl ?_
        refine gf_Md_35 (pc := 34) rfl dk_Md_knows_34 ?_
        refine rn_iload_n (pc := 37) 1 dk_Md_knows_37 rfl rfl ?_
        refine rn_iaload (pc := 38) rfl dk_Md_knows_38 (fun g6 => ?_)
        refine rn_iload_n (pc := 39) 2 dk_Md_knows_39 rfl rfl ?_
        refine rn_ishr (pc := 40) dk_Md_knows_40 ?_
        refine rn_iconst (pc := 41) (1 : Int32) dk_Md_knows_41 cn_i_1 ?_
        refine rn_iand (pc := 42) dk_Md_knows_42 ?_
        refine rn_leti (fun v7 => ?_)
        refine rn_istore (pc := 43) dk_Md_knows_43 rfl rfl ?_
        refine rn_aload_n (pc := 45) 0 dk_Md_knows_45 rfl rfl rfl ?_
        refine gf_Md_35 (pc := 46) rfl dk_Md_knows_46 ?_
        refine rn_iload_n (pc := 49) 1 dk_Md_knows_49 rfl rfl ?_
        refine rn_iload_n (pc := 50) 3 dk_Md_knows_50 rfl rfl ?_
        refine rn_if_eq (pc := 51) 67 dk_Md_knows_51 (by decide) (fun c8 => ?_) (fun c8 => ?_)
        · refine rn_aload_n (pc := 67) 0 dk_Md_knows_67 rfl rfl rfl ?_
          refine gf_Md_35 (pc := 68) rfl dk_Md_knows_68 ?_
          refine rn_iload_n (pc := 71) 1 dk_Md_knows_71 rfl rfl ?_
          refine rn_iaload (pc := 72) rfl dk_Md_knows_72 (fun g9 => ?_)
          refine rn_iconst (pc := 73) (1 : Int32) dk_Md_knows_73 cn_i_1 ?_
          refine rn_iload_n (pc := 74) 2 dk_Md_knows_74 rfl rfl ?_
          refine rn_ishl (pc := 75) dk_Md_knows_75 ?_
          refine rn_iconst (pc := 76) (-1 : Int32) dk_Md_knows_76 cn_i_m1 ?_
          refine rn_ixor (pc := 77) dk_Md_knows_77 ?_
          refine rn_iand (pc := 78) dk_Md_knows_78 ?_
          refine rn_iastore (pc := 79) rfl dk_Md_knows_79 (fun g10 => ?_)
          refine rn_lets (fun s11 => ?_)
          refine rn_iload (pc := 80) dk_Md_knows_80 rfl ?_
          exact rn_iret rfl dk_Md_knows_82
        · refine rn_aload_n (pc := 54) 0 dk_Md_knows_54 rfl rfl rfl ?_
          refine gf_Md_35 (pc := 55) rfl dk_Md_knows_55 ?_
          refine rn_iload_n (pc := 58) 1 dk_Md_knows_58 rfl rfl ?_
          refine rn_iaload (pc := 59) rfl dk_Md_knows_59 (fun g12 => ?_)
          refine rn_iconst (pc := 60) (1 : Int32) dk_Md_knows_60 cn_i_1 ?_
          refine rn_iload_n (pc := 61) 2 dk_Md_knows_61 rfl rfl ?_
          refine rn_ishl (pc := 62) dk_Md_knows_62 ?_
          refine rn_ior (pc := 63) dk_Md_knows_63 ?_
          refine rn_goto (pc := 64) 79 dk_Md_knows_64 (by decide) ?_
          refine rn_iastore (pc := 79) rfl dk_Md_knows_79 (fun g13 => ?_)
          refine rn_lets (fun s14 => ?_)
          refine rn_iload (pc := 80) dk_Md_knows_80 rfl ?_
          exact rn_iret rfl dk_Md_knows_82
      · refine rn_aload_n (pc := 26) 0 dk_Md_knows_26 rfl rfl rfl ?_
        refine rn_bipush (pc := 27) (-6 : Int32) dk_Md_knows_27 cn_b_m6 ?_
        refine cl_Md_97 (pc := 29) (As := [.int (-6 : Int32)]) (st := []) rfl (ct_Md_no X (-6 : Int32) q1.2) (Nat.le_trans (Nat.le_of_ble_eq_true rfl) hF0) rfl rfl (Nat.le_of_ble_eq_true rfl) dk_Md_knows_29 (fun q15 => ?_)
        exact rn_iret rfl dk_Md_knows_32
  · refine rn_aload_n (pc := 8) 0 dk_Md_knows_8 rfl rfl rfl ?_
    refine rn_iconst (pc := 9) (-1 : Int32) dk_Md_knows_9 cn_i_m1 ?_
    refine cl_Md_97 (pc := 10) (As := [.int (-1 : Int32)]) (st := []) rfl (ct_Md_no X (-1 : Int32) q1.2) (Nat.le_trans (Nat.le_of_ble_eq_true rfl) hF0) rfl rfl (Nat.le_of_ble_eq_true rfl) dk_Md_knows_10 (fun q16 => ?_)
    exact rn_iret rfl dk_Md_knows_13
theorem dk_Md_ties_0 : decode mi_Md_ties.2.1 0 = .ok (.aload_n 0, 1) := by decide +kernel
theorem dk_Md_ties_1 : decode mi_Md_ties.2.1 1 = .ok (.getfield 38, 3) := by decide +kernel
theorem dk_Md_ties_4 : decode mi_Md_ties.2.1 4 = .ok (.iload_n 1, 1) := by decide +kernel
theorem dk_Md_ties_5 : decode mi_Md_ties.2.1 5 = .ok (.iload_n 3, 1) := by decide +kernel
theorem dk_Md_ties_6 : decode mi_Md_ties.2.1 6 = .ok (.ifCond .eq 16, 3) := by decide +kernel
theorem dk_Md_ties_9 : decode mi_Md_ties.2.1 9 = .ok (.aload_n 0, 1) := by decide +kernel
theorem dk_Md_ties_10 : decode mi_Md_ties.2.1 10 = .ok (.getfield 38, 3) := by decide +kernel
theorem dk_Md_ties_13 : decode mi_Md_ties.2.1 13 = .ok (.iload_n 1, 1) := by decide +kernel
theorem dk_Md_ties_14 : decode mi_Md_ties.2.1 14 = .ok (.iaload, 1) := by decide +kernel
theorem dk_Md_ties_15 : decode mi_Md_ties.2.1 15 = .ok (.iconst 1, 1) := by decide +kernel
theorem dk_Md_ties_16 : decode mi_Md_ties.2.1 16 = .ok (.iload_n 2, 1) := by decide +kernel
theorem dk_Md_ties_17 : decode mi_Md_ties.2.1 17 = .ok (.ishl, 1) := by decide +kernel
theorem dk_Md_ties_18 : decode mi_Md_ties.2.1 18 = .ok (.ior, 1) := by decide +kernel
theorem dk_Md_ties_19 : decode mi_Md_ties.2.1 19 = .ok (.goto 15, 3) := by decide +kernel
theorem dk_Md_ties_22 : decode mi_Md_ties.2.1 22 = .ok (.aload_n 0, 1) := by decide +kernel
theorem dk_Md_ties_23 : decode mi_Md_ties.2.1 23 = .ok (.getfield 38, 3) := by decide +kernel
theorem dk_Md_ties_26 : decode mi_Md_ties.2.1 26 = .ok (.iload_n 1, 1) := by decide +kernel
theorem dk_Md_ties_27 : decode mi_Md_ties.2.1 27 = .ok (.iaload, 1) := by decide +kernel
theorem dk_Md_ties_28 : decode mi_Md_ties.2.1 28 = .ok (.iconst 1, 1) := by decide +kernel
theorem dk_Md_ties_29 : decode mi_Md_ties.2.1 29 = .ok (.iload_n 2, 1) := by decide +kernel
theorem dk_Md_ties_30 : decode mi_Md_ties.2.1 30 = .ok (.ishl, 1) := by decide +kernel
theorem dk_Md_ties_31 : decode mi_Md_ties.2.1 31 = .ok (.iconst (-1), 1) := by decide +kernel
theorem dk_Md_ties_32 : decode mi_Md_ties.2.1 32 = .ok (.ixor, 1) := by decide +kernel
theorem dk_Md_ties_33 : decode mi_Md_ties.2.1 33 = .ok (.iand, 1) := by decide +kernel
theorem dk_Md_ties_34 : decode mi_Md_ties.2.1 34 = .ok (.iastore, 1) := by decide +kernel
theorem dk_Md_ties_35 : decode mi_Md_ties.2.1 35 = .ok (.aload_n 0, 1) := by decide +kernel
theorem dk_Md_ties_36 : decode mi_Md_ties.2.1 36 = .ok (.getfield 38, 3) := by decide +kernel
theorem dk_Md_ties_39 : decode mi_Md_ties.2.1 39 = .ok (.iload_n 2, 1) := by decide +kernel
theorem dk_Md_ties_40 : decode mi_Md_ties.2.1 40 = .ok (.iload_n 3, 1) := by decide +kernel
theorem dk_Md_ties_41 : decode mi_Md_ties.2.1 41 = .ok (.ifCond .eq 16, 3) := by decide +kernel
theorem dk_Md_ties_44 : decode mi_Md_ties.2.1 44 = .ok (.aload_n 0, 1) := by decide +kernel
theorem dk_Md_ties_45 : decode mi_Md_ties.2.1 45 = .ok (.getfield 38, 3) := by decide +kernel
theorem dk_Md_ties_48 : decode mi_Md_ties.2.1 48 = .ok (.iload_n 2, 1) := by decide +kernel
theorem dk_Md_ties_49 : decode mi_Md_ties.2.1 49 = .ok (.iaload, 1) := by decide +kernel
theorem dk_Md_ties_50 : decode mi_Md_ties.2.1 50 = .ok (.iconst 1, 1) := by decide +kernel
theorem dk_Md_ties_51 : decode mi_Md_ties.2.1 51 = .ok (.iload_n 1, 1) := by decide +kernel
theorem dk_Md_ties_52 : decode mi_Md_ties.2.1 52 = .ok (.ishl, 1) := by decide +kernel
theorem dk_Md_ties_53 : decode mi_Md_ties.2.1 53 = .ok (.ior, 1) := by decide +kernel
theorem dk_Md_ties_54 : decode mi_Md_ties.2.1 54 = .ok (.goto 15, 3) := by decide +kernel
theorem dk_Md_ties_57 : decode mi_Md_ties.2.1 57 = .ok (.aload_n 0, 1) := by decide +kernel
theorem dk_Md_ties_58 : decode mi_Md_ties.2.1 58 = .ok (.getfield 38, 3) := by decide +kernel
theorem dk_Md_ties_61 : decode mi_Md_ties.2.1 61 = .ok (.iload_n 2, 1) := by decide +kernel
theorem dk_Md_ties_62 : decode mi_Md_ties.2.1 62 = .ok (.iaload, 1) := by decide +kernel
theorem dk_Md_ties_63 : decode mi_Md_ties.2.1 63 = .ok (.iconst 1, 1) := by decide +kernel
theorem dk_Md_ties_64 : decode mi_Md_ties.2.1 64 = .ok (.iload_n 1, 1) := by decide +kernel
theorem dk_Md_ties_65 : decode mi_Md_ties.2.1 65 = .ok (.ishl, 1) := by decide +kernel
theorem dk_Md_ties_66 : decode mi_Md_ties.2.1 66 = .ok (.iconst (-1), 1) := by decide +kernel
theorem dk_Md_ties_67 : decode mi_Md_ties.2.1 67 = .ok (.ixor, 1) := by decide +kernel
theorem dk_Md_ties_68 : decode mi_Md_ties.2.1 68 = .ok (.iand, 1) := by decide +kernel
theorem dk_Md_ties_69 : decode mi_Md_ties.2.1 69 = .ok (.iastore, 1) := by decide +kernel
theorem dk_Md_ties_70 : decode mi_Md_ties.2.1 70 = .ok (.return_, 1) := by decide +kernel
def Md_ties_j34 (x1 : Int32) (x2 : Int32) (x3 : Int32) (y1 : Int32) (y2 : Int32) (σ : nm_St) : Option (Unit × nm_St) :=
  (nm_g (nm_in y1 8) (
  (nm_let (nm_pI σ 76 y1.toNatClampNeg y2) fun s4 =>
  (if x3 = 0 then
    (nm_g (nm_in x2 8) (
    (nm_g (nm_in x2 8) (
    (nm_let (nm_pI s4 76 x2.toNatClampNeg ((s4.1 76 x2.toNatClampNeg) &&& (((1 : Int32) <<< (x1 &&& 31)) ^^^ (-1 : Int32)))) fun s8 =>
    some ((), s8))))))
  else
    (nm_g (nm_in x2 8) (
    (nm_g (nm_in x2 8) (
    (nm_let (nm_pI s4 76 x2.toNatClampNeg ((s4.1 76 x2.toNatClampNeg) ||| ((1 : Int32) <<< (x1 &&& 31)))) fun s11 =>
    some ((), s11))))))))))
set_option maxRecDepth 100000 in
set_option maxHeartbeats 4000000 in
theorem r_Md_ties_j34 (X : nm_X) (F : nm_F) (hF0 : 0 ≤ nm_d F) (x1 : Int32) (x2 : Int32) (x3 : Int32) (y1 : Int32) (y2 : Int32) (σ : nm_St) : Rn X mi_Md_ties F (nm_Qf X F nm_wV) [(0, .ref 70), (1, .int x1), (2, .int x2), (3, .int x3)] [.int y2, .int y1, .ref 76] 34 σ (Md_ties_j34 x1 x2 x3 y1 y2 σ) := by
  unfold Md_ties_j34
  refine rn_iastore (pc := 34) rfl dk_Md_ties_34 (fun g3 => ?_)
  refine rn_lets (fun s4 => ?_)
  refine rn_aload_n (pc := 35) 0 dk_Md_ties_35 rfl rfl rfl ?_
  refine gf_Md_38 (pc := 36) rfl dk_Md_ties_36 ?_
  refine rn_iload_n (pc := 39) 2 dk_Md_ties_39 rfl rfl ?_
  refine rn_iload_n (pc := 40) 3 dk_Md_ties_40 rfl rfl ?_
  refine rn_if_eq (pc := 41) 57 dk_Md_ties_41 (by decide) (fun c5 => ?_) (fun c5 => ?_)
  · refine rn_aload_n (pc := 57) 0 dk_Md_ties_57 rfl rfl rfl ?_
    refine gf_Md_38 (pc := 58) rfl dk_Md_ties_58 ?_
    refine rn_iload_n (pc := 61) 2 dk_Md_ties_61 rfl rfl ?_
    refine rn_iaload (pc := 62) rfl dk_Md_ties_62 (fun g6 => ?_)
    refine rn_iconst (pc := 63) (1 : Int32) dk_Md_ties_63 cn_i_1 ?_
    refine rn_iload_n (pc := 64) 1 dk_Md_ties_64 rfl rfl ?_
    refine rn_ishl (pc := 65) dk_Md_ties_65 ?_
    refine rn_iconst (pc := 66) (-1 : Int32) dk_Md_ties_66 cn_i_m1 ?_
    refine rn_ixor (pc := 67) dk_Md_ties_67 ?_
    refine rn_iand (pc := 68) dk_Md_ties_68 ?_
    refine rn_iastore (pc := 69) rfl dk_Md_ties_69 (fun g7 => ?_)
    refine rn_lets (fun s8 => ?_)
    exact rn_vret rfl dk_Md_ties_70
  · refine rn_aload_n (pc := 44) 0 dk_Md_ties_44 rfl rfl rfl ?_
    refine gf_Md_38 (pc := 45) rfl dk_Md_ties_45 ?_
    refine rn_iload_n (pc := 48) 2 dk_Md_ties_48 rfl rfl ?_
    refine rn_iaload (pc := 49) rfl dk_Md_ties_49 (fun g9 => ?_)
    refine rn_iconst (pc := 50) (1 : Int32) dk_Md_ties_50 cn_i_1 ?_
    refine rn_iload_n (pc := 51) 1 dk_Md_ties_51 rfl rfl ?_
    refine rn_ishl (pc := 52) dk_Md_ties_52 ?_
    refine rn_ior (pc := 53) dk_Md_ties_53 ?_
    refine rn_goto (pc := 54) 69 dk_Md_ties_54 (by decide) ?_
    refine rn_iastore (pc := 69) rfl dk_Md_ties_69 (fun g10 => ?_)
    refine rn_lets (fun s11 => ?_)
    exact rn_vret rfl dk_Md_ties_70
def Md_ties (p1 : Int32) (p2 : Int32) (p3 : Int32) (σ : nm_St) : Option (Unit × nm_St) :=
  (if p3 = 0 then
    (nm_g (nm_in p1 8) (
    Md_ties_j34 p1 p2 p3 p1 ((σ.1 76 p1.toNatClampNeg) &&& (((1 : Int32) <<< (p2 &&& 31)) ^^^ (-1 : Int32))) σ))
  else
    (nm_g (nm_in p1 8) (
    Md_ties_j34 p1 p2 p3 p1 ((σ.1 76 p1.toNatClampNeg) ||| ((1 : Int32) <<< (p2 &&& 31))) σ)))
set_option maxRecDepth 100000 in
set_option maxHeartbeats 4000000 in
theorem ct_Md_ties (X : nm_X) (p1 : Int32) (p2 : Int32) (p3 : Int32) (σ : nm_St) : Ct X mi_Md_ties 0 nm_wV [.ref 70, .int p1, .int p2, .int p3] σ (Md_ties p1 p2 p3 σ) := by
  refine Ct.of (by decide +kernel) rfl (fun F hF0 => ?_)
  unfold Md_ties
  refine rn_aload_n (pc := 0) 0 dk_Md_ties_0 rfl rfl rfl ?_
  refine gf_Md_38 (pc := 1) rfl dk_Md_ties_1 ?_
  refine rn_iload_n (pc := 4) 1 dk_Md_ties_4 rfl rfl ?_
  refine rn_iload_n (pc := 5) 3 dk_Md_ties_5 rfl rfl ?_
  refine rn_if_eq (pc := 6) 22 dk_Md_ties_6 (by decide) (fun c1 => ?_) (fun c1 => ?_)
  · refine rn_aload_n (pc := 22) 0 dk_Md_ties_22 rfl rfl rfl ?_
    refine gf_Md_38 (pc := 23) rfl dk_Md_ties_23 ?_
    refine rn_iload_n (pc := 26) 1 dk_Md_ties_26 rfl rfl ?_
    refine rn_iaload (pc := 27) rfl dk_Md_ties_27 (fun g2 => ?_)
    refine rn_iconst (pc := 28) (1 : Int32) dk_Md_ties_28 cn_i_1 ?_
    refine rn_iload_n (pc := 29) 2 dk_Md_ties_29 rfl rfl ?_
    refine rn_ishl (pc := 30) dk_Md_ties_30 ?_
    refine rn_iconst (pc := 31) (-1 : Int32) dk_Md_ties_31 cn_i_m1 ?_
    refine rn_ixor (pc := 32) dk_Md_ties_32 ?_
    refine rn_iand (pc := 33) dk_Md_ties_33 ?_
    exact rn_sub (by rfl) (r_Md_ties_j34 X F hF0 p1 p2 p3 p1 ((σ.1 76 p1.toNatClampNeg) &&& (((1 : Int32) <<< (p2 &&& 31)) ^^^ (-1 : Int32))) σ)
  · refine rn_aload_n (pc := 9) 0 dk_Md_ties_9 rfl rfl rfl ?_
    refine gf_Md_38 (pc := 10) rfl dk_Md_ties_10 ?_
    refine rn_iload_n (pc := 13) 1 dk_Md_ties_13 rfl rfl ?_
    refine rn_iaload (pc := 14) rfl dk_Md_ties_14 (fun g12 => ?_)
    refine rn_iconst (pc := 15) (1 : Int32) dk_Md_ties_15 cn_i_1 ?_
    refine rn_iload_n (pc := 16) 2 dk_Md_ties_16 rfl rfl ?_
    refine rn_ishl (pc := 17) dk_Md_ties_17 ?_
    refine rn_ior (pc := 18) dk_Md_ties_18 ?_
    refine rn_goto (pc := 19) 34 dk_Md_ties_19 (by decide) ?_
    exact rn_sub (by rfl) (r_Md_ties_j34 X F hF0 p1 p2 p3 p1 ((σ.1 76 p1.toNatClampNeg) ||| ((1 : Int32) <<< (p2 &&& 31))) σ)
theorem dk_Md_kin_0 : decode mi_Md_kin.2.1 0 = .ok (.aload_n 0, 1) := by decide +kernel
theorem dk_Md_kin_1 : decode mi_Md_kin.2.1 1 = .ok (.iload_n 1, 1) := by decide +kernel
theorem dk_Md_kin_2 : decode mi_Md_kin.2.1 2 = .ok (.invokevirtual 101, 3) := by decide +kernel
theorem dk_Md_kin_5 : decode mi_Md_kin.2.1 5 = .ok (.ifCond .eq 11, 3) := by decide +kernel
theorem dk_Md_kin_8 : decode mi_Md_kin.2.1 8 = .ok (.aload_n 0, 1) := by decide +kernel
theorem dk_Md_kin_9 : decode mi_Md_kin.2.1 9 = .ok (.iload_n 2, 1) := by decide +kernel
theorem dk_Md_kin_10 : decode mi_Md_kin.2.1 10 = .ok (.invokevirtual 101, 3) := by decide +kernel
theorem dk_Md_kin_13 : decode mi_Md_kin.2.1 13 = .ok (.ifCond .ne 9, 3) := by decide +kernel
theorem dk_Md_kin_16 : decode mi_Md_kin.2.1 16 = .ok (.aload_n 0, 1) := by decide +kernel
theorem dk_Md_kin_17 : decode mi_Md_kin.2.1 17 = .ok (.iconst (-1), 1) := by decide +kernel
theorem dk_Md_kin_18 : decode mi_Md_kin.2.1 18 = .ok (.invokevirtual 97, 3) := by decide +kernel
theorem dk_Md_kin_21 : decode mi_Md_kin.2.1 21 = .ok (.ireturn, 1) := by decide +kernel
theorem dk_Md_kin_22 : decode mi_Md_kin.2.1 22 = .ok (.iload_n 1, 1) := by decide +kernel
theorem dk_Md_kin_23 : decode mi_Md_kin.2.1 23 = .ok (.iload_n 2, 1) := by decide +kernel
theorem dk_Md_kin_24 : decode mi_Md_kin.2.1 24 = .ok (.if_icmp .ne 10, 3) := by decide +kernel
theorem dk_Md_kin_27 : decode mi_Md_kin.2.1 27 = .ok (.aload_n 0, 1) := by decide +kernel
theorem dk_Md_kin_28 : decode mi_Md_kin.2.1 28 = .ok (.bipush (-6), 2) := by decide +kernel
theorem dk_Md_kin_30 : decode mi_Md_kin.2.1 30 = .ok (.invokevirtual 97, 3) := by decide +kernel
theorem dk_Md_kin_33 : decode mi_Md_kin.2.1 33 = .ok (.ireturn, 1) := by decide +kernel
theorem dk_Md_kin_34 : decode mi_Md_kin.2.1 34 = .ok (.aload_n 0, 1) := by decide +kernel
theorem dk_Md_kin_35 : decode mi_Md_kin.2.1 35 = .ok (.getfield 38, 3) := by decide +kernel
theorem dk_Md_kin_38 : decode mi_Md_kin.2.1 38 = .ok (.iload_n 1, 1) := by decide +kernel
theorem dk_Md_kin_39 : decode mi_Md_kin.2.1 39 = .ok (.iaload, 1) := by decide +kernel
theorem dk_Md_kin_40 : decode mi_Md_kin.2.1 40 = .ok (.iload_n 2, 1) := by decide +kernel
theorem dk_Md_kin_41 : decode mi_Md_kin.2.1 41 = .ok (.ishr, 1) := by decide +kernel
theorem dk_Md_kin_42 : decode mi_Md_kin.2.1 42 = .ok (.iconst 1, 1) := by decide +kernel
theorem dk_Md_kin_43 : decode mi_Md_kin.2.1 43 = .ok (.iand, 1) := by decide +kernel
theorem dk_Md_kin_44 : decode mi_Md_kin.2.1 44 = .ok (.istore 4, 2) := by decide +kernel
theorem dk_Md_kin_46 : decode mi_Md_kin.2.1 46 = .ok (.aload_n 0, 1) := by decide +kernel
theorem dk_Md_kin_47 : decode mi_Md_kin.2.1 47 = .ok (.iload_n 1, 1) := by decide +kernel
theorem dk_Md_kin_48 : decode mi_Md_kin.2.1 48 = .ok (.iload_n 2, 1) := by decide +kernel
theorem dk_Md_kin_49 : decode mi_Md_kin.2.1 49 = .ok (.iload_n 3, 1) := by decide +kernel
theorem dk_Md_kin_50 : decode mi_Md_kin.2.1 50 = .ok (.invokevirtual 114, 3) := by decide +kernel
theorem dk_Md_kin_53 : decode mi_Md_kin.2.1 53 = .ok (.iload 4, 2) := by decide +kernel
theorem dk_Md_kin_55 : decode mi_Md_kin.2.1 55 = .ok (.ireturn, 1) := by decide +kernel
def Md_kin (p1 : Int32) (p2 : Int32) (p3 : Int32) (σ : nm_St) : Option (Int32 × nm_St) :=
  ((Md_isMaker p1 σ).bind fun q1 =>
  (if q1.1 = 0 then
    ((Md_no (-1 : Int32) q1.2).bind fun q3 =>
    some (q3.1, q3.2))
  else
    ((Md_isMaker p2 q1.2).bind fun q4 =>
    (if q4.1 = 0 then
      ((Md_no (-1 : Int32) q4.2).bind fun q11 =>
      some (q11.1, q11.2))
    else
      (if p1 = p2 then
        ((Md_no (-6 : Int32) q4.2).bind fun q10 =>
        some (q10.1, q10.2))
      else
        (nm_g (nm_in p1 8) (
        (nm_let ((((q4.2.1 76 p1.toNatClampNeg) >>> (p2 &&& 31)) &&& (1 : Int32))) fun v8 =>
        ((Md_ties p1 p2 p3 q4.2).bind fun q9 =>
        some (v8, q9.2))))))))))
set_option maxRecDepth 100000 in
set_option maxHeartbeats 4000000 in
theorem ct_Md_kin (X : nm_X) (p1 : Int32) (p2 : Int32) (p3 : Int32) (σ : nm_St) : Ct X mi_Md_kin 1 nm_wI [.ref 70, .int p1, .int p2, .int p3] σ (Md_kin p1 p2 p3 σ) := by
  refine Ct.of (by decide +kernel) rfl (fun F hF0 => ?_)
  unfold Md_kin
  refine rn_aload_n (pc := 0) 0 dk_Md_kin_0 rfl rfl rfl ?_
  refine rn_iload_n (pc := 1) 1 dk_Md_kin_1 rfl rfl ?_
  refine cl_Md_101 (pc := 2) (As := [.int p1]) (st := []) rfl (ct_Md_isMaker X p1 σ) (Nat.le_trans (Nat.le_of_ble_eq_true rfl) hF0) rfl rfl (Nat.le_of_ble_eq_true rfl) dk_Md_kin_2 (fun q1 => ?_)
  refine rn_if_eq (pc := 5) 16 dk_Md_kin_5 (by decide) (fun c2 => ?_) (fun c2 => ?_)
  · refine rn_aload_n (pc := 16) 0 dk_Md_kin_16 rfl rfl rfl ?_
    refine rn_iconst (pc := 17) (-1 : Int32) dk_Md_kin_17 cn_i_m1 ?_
    refine cl_Md_97 (pc := 18) (As := [.int (-1 : Int32)]) (st := []) rfl (ct_Md_no X (-1 : Int32) q1.2) (Nat.le_trans (Nat.le_of_ble_eq_true rfl) hF0) rfl rfl (Nat.le_of_ble_eq_true rfl) dk_Md_kin_18 (fun q3 => ?_)
    exact rn_iret rfl dk_Md_kin_21
  · refine rn_aload_n (pc := 8) 0 dk_Md_kin_8 rfl rfl rfl ?_
    refine rn_iload_n (pc := 9) 2 dk_Md_kin_9 rfl rfl ?_
    refine cl_Md_101 (pc := 10) (As := [.int p2]) (st := []) rfl (ct_Md_isMaker X p2 q1.2) (Nat.le_trans (Nat.le_of_ble_eq_true rfl) hF0) rfl rfl (Nat.le_of_ble_eq_true rfl) dk_Md_kin_10 (fun q4 => ?_)
    refine rn_if_ne (pc := 13) 22 dk_Md_kin_13 (by decide) (fun c5 => ?_) (fun c5 => ?_)
    · refine rn_iload_n (pc := 22) 1 dk_Md_kin_22 rfl rfl ?_
      refine rn_iload_n (pc := 23) 2 dk_Md_kin_23 rfl rfl ?_
      refine rn_icmp_ne (pc := 24) 34 dk_Md_kin_24 (by decide) (fun c6 => ?_) (fun c6 => ?_)
      · refine rn_aload_n (pc := 34) 0 dk_Md_kin_34 rfl rfl rfl ?_
        refine gf_Md_38 (pc := 35) rfl dk_Md_kin_35 ?_
        refine rn_iload_n (pc := 38) 1 dk_Md_kin_38 rfl rfl ?_
        refine rn_iaload (pc := 39) rfl dk_Md_kin_39 (fun g7 => ?_)
        refine rn_iload_n (pc := 40) 2 dk_Md_kin_40 rfl rfl ?_
        refine rn_ishr (pc := 41) dk_Md_kin_41 ?_
        refine rn_iconst (pc := 42) (1 : Int32) dk_Md_kin_42 cn_i_1 ?_
        refine rn_iand (pc := 43) dk_Md_kin_43 ?_
        refine rn_leti (fun v8 => ?_)
        refine rn_istore (pc := 44) dk_Md_kin_44 rfl rfl ?_
        refine rn_aload_n (pc := 46) 0 dk_Md_kin_46 rfl rfl rfl ?_
        refine rn_iload_n (pc := 47) 1 dk_Md_kin_47 rfl rfl ?_
        refine rn_iload_n (pc := 48) 2 dk_Md_kin_48 rfl rfl ?_
        refine rn_iload_n (pc := 49) 3 dk_Md_kin_49 rfl rfl ?_
        refine cl_Md_114 (pc := 50) (As := [.int p1, .int p2, .int p3]) (st := []) rfl (ct_Md_ties X p1 p2 p3 q4.2) (Nat.le_trans (Nat.le_of_ble_eq_true rfl) hF0) rfl rfl (Nat.le_of_ble_eq_true rfl) dk_Md_kin_50 (fun q9 => ?_)
        refine rn_iload (pc := 53) dk_Md_kin_53 rfl ?_
        exact rn_iret rfl dk_Md_kin_55
      · refine rn_aload_n (pc := 27) 0 dk_Md_kin_27 rfl rfl rfl ?_
        refine rn_bipush (pc := 28) (-6 : Int32) dk_Md_kin_28 cn_b_m6 ?_
        refine cl_Md_97 (pc := 30) (As := [.int (-6 : Int32)]) (st := []) rfl (ct_Md_no X (-6 : Int32) q4.2) (Nat.le_trans (Nat.le_of_ble_eq_true rfl) hF0) rfl rfl (Nat.le_of_ble_eq_true rfl) dk_Md_kin_30 (fun q10 => ?_)
        exact rn_iret rfl dk_Md_kin_33
    · refine rn_aload_n (pc := 16) 0 dk_Md_kin_16 rfl rfl rfl ?_
      refine rn_iconst (pc := 17) (-1 : Int32) dk_Md_kin_17 cn_i_m1 ?_
      refine cl_Md_97 (pc := 18) (As := [.int (-1 : Int32)]) (st := []) rfl (ct_Md_no X (-1 : Int32) q4.2) (Nat.le_trans (Nat.le_of_ble_eq_true rfl) hF0) rfl rfl (Nat.le_of_ble_eq_true rfl) dk_Md_kin_18 (fun q11 => ?_)
      exact rn_iret rfl dk_Md_kin_21
theorem dk_Md_ask_0 : decode mi_Md_ask.2.1 0 = .ok (.iload_n 1, 1) := by decide +kernel
theorem dk_Md_ask_1 : decode mi_Md_ask.2.1 1 = .ok (.ifCond .lt 28, 3) := by decide +kernel
theorem dk_Md_ask_4 : decode mi_Md_ask.2.1 4 = .ok (.iload_n 1, 1) := by decide +kernel
theorem dk_Md_ask_5 : decode mi_Md_ask.2.1 5 = .ok (.iconst 1, 1) := by decide +kernel
theorem dk_Md_ask_6 : decode mi_Md_ask.2.1 6 = .ok (.if_icmp .gt 23, 3) := by decide +kernel
theorem dk_Md_ask_9 : decode mi_Md_ask.2.1 9 = .ok (.iload_n 2, 1) := by decide +kernel
theorem dk_Md_ask_10 : decode mi_Md_ask.2.1 10 = .ok (.ifCond .lt 19, 3) := by decide +kernel
theorem dk_Md_ask_13 : decode mi_Md_ask.2.1 13 = .ok (.iload_n 2, 1) := by decide +kernel
theorem dk_Md_ask_14 : decode mi_Md_ask.2.1 14 = .ok (.iload_n 1, 1) := by decide +kernel
theorem dk_Md_ask_15 : decode mi_Md_ask.2.1 15 = .ok (.ifCond .ne 8, 3) := by decide +kernel
theorem dk_Md_ask_18 : decode mi_Md_ask.2.1 18 = .ok (.bipush 99, 2) := by decide +kernel
theorem dk_Md_ask_20 : decode mi_Md_ask.2.1 20 = .ok (.goto 6, 3) := by decide +kernel
theorem dk_Md_ask_23 : decode mi_Md_ask.2.1 23 = .ok (.sipush 9999, 3) := by decide +kernel
theorem dk_Md_ask_26 : decode mi_Md_ask.2.1 26 = .ok (.if_icmp .le 10, 3) := by decide +kernel
theorem dk_Md_ask_29 : decode mi_Md_ask.2.1 29 = .ok (.aload_n 0, 1) := by decide +kernel
theorem dk_Md_ask_30 : decode mi_Md_ask.2.1 30 = .ok (.bipush (-6), 2) := by decide +kernel
theorem dk_Md_ask_32 : decode mi_Md_ask.2.1 32 = .ok (.invokevirtual 97, 3) := by decide +kernel
theorem dk_Md_ask_35 : decode mi_Md_ask.2.1 35 = .ok (.ireturn, 1) := by decide +kernel
theorem dk_Md_ask_36 : decode mi_Md_ask.2.1 36 = .ok (.iload_n 1, 1) := by decide +kernel
theorem dk_Md_ask_37 : decode mi_Md_ask.2.1 37 = .ok (.ifCond .ne 10, 3) := by decide +kernel
theorem dk_Md_ask_40 : decode mi_Md_ask.2.1 40 = .ok (.aload_n 0, 1) := by decide +kernel
theorem dk_Md_ask_41 : decode mi_Md_ask.2.1 41 = .ok (.getfield 118, 3) := by decide +kernel
theorem dk_Md_ask_44 : decode mi_Md_ask.2.1 44 = .ok (.goto 7, 3) := by decide +kernel
theorem dk_Md_ask_47 : decode mi_Md_ask.2.1 47 = .ok (.aload_n 0, 1) := by decide +kernel
theorem dk_Md_ask_48 : decode mi_Md_ask.2.1 48 = .ok (.getfield 13, 3) := by decide +kernel
theorem dk_Md_ask_51 : decode mi_Md_ask.2.1 51 = .ok (.istore_n 3, 1) := by decide +kernel
theorem dk_Md_ask_52 : decode mi_Md_ask.2.1 52 = .ok (.iload_n 1, 1) := by decide +kernel
theorem dk_Md_ask_53 : decode mi_Md_ask.2.1 53 = .ok (.ifCond .ne 11, 3) := by decide +kernel
theorem dk_Md_ask_56 : decode mi_Md_ask.2.1 56 = .ok (.aload_n 0, 1) := by decide +kernel
theorem dk_Md_ask_57 : decode mi_Md_ask.2.1 57 = .ok (.iload_n 2, 1) := by decide +kernel
theorem dk_Md_ask_58 : decode mi_Md_ask.2.1 58 = .ok (.putfield 118, 3) := by decide +kernel
theorem dk_Md_ask_61 : decode mi_Md_ask.2.1 61 = .ok (.goto 8, 3) := by decide +kernel
theorem dk_Md_ask_64 : decode mi_Md_ask.2.1 64 = .ok (.aload_n 0, 1) := by decide +kernel
theorem dk_Md_ask_65 : decode mi_Md_ask.2.1 65 = .ok (.iload_n 2, 1) := by decide +kernel
theorem dk_Md_ask_66 : decode mi_Md_ask.2.1 66 = .ok (.putfield 13, 3) := by decide +kernel
theorem dk_Md_ask_69 : decode mi_Md_ask.2.1 69 = .ok (.iload_n 3, 1) := by decide +kernel
theorem dk_Md_ask_70 : decode mi_Md_ask.2.1 70 = .ok (.ireturn, 1) := by decide +kernel
def Md_ask_j51 (x1 : Int32) (x2 : Int32) (y0 : Int32) (σ : nm_St) : Option (Int32 × nm_St) :=
  (if x1 = 0 then
    (nm_let (nm_pI σ 70 2 x2) fun s12 =>
    some (y0, s12))
  else
    (nm_let (nm_pI σ 70 3 x2) fun s11 =>
    some (y0, s11)))
set_option maxRecDepth 100000 in
set_option maxHeartbeats 4000000 in
theorem r_Md_ask_j51 (X : nm_X) (F : nm_F) (hF0 : 1 ≤ nm_d F) (x1 : Int32) (x2 : Int32) (y0 : Int32) (σ : nm_St) : Rn X mi_Md_ask F (nm_Qf X F nm_wI) [(0, .ref 70), (1, .int x1), (2, .int x2)] [.int y0] 51 σ (Md_ask_j51 x1 x2 y0 σ) := by
  unfold Md_ask_j51
  refine rn_istore_n (pc := 51) 3 dk_Md_ask_51 rfl rfl rfl ?_
  refine rn_iload_n (pc := 52) 1 dk_Md_ask_52 rfl rfl ?_
  refine rn_if_ne (pc := 53) 64 dk_Md_ask_53 (by decide) (fun c10 => ?_) (fun c10 => ?_)
  · refine rn_aload_n (pc := 64) 0 dk_Md_ask_64 rfl rfl rfl ?_
    refine rn_iload_n (pc := 65) 2 dk_Md_ask_65 rfl rfl ?_
    refine pf_Md_13 (pc := 66) rfl dk_Md_ask_66 ?_
    refine rn_lets (fun s11 => ?_)
    refine rn_iload_n (pc := 69) 3 dk_Md_ask_69 rfl rfl ?_
    exact rn_iret rfl dk_Md_ask_70
  · refine rn_aload_n (pc := 56) 0 dk_Md_ask_56 rfl rfl rfl ?_
    refine rn_iload_n (pc := 57) 2 dk_Md_ask_57 rfl rfl ?_
    refine pf_Md_118 (pc := 58) rfl dk_Md_ask_58 ?_
    refine rn_lets (fun s12 => ?_)
    refine rn_goto (pc := 61) 69 dk_Md_ask_61 (by decide) ?_
    refine rn_iload_n (pc := 69) 3 dk_Md_ask_69 rfl rfl ?_
    exact rn_iret rfl dk_Md_ask_70
def Md_ask_j26 (x1 : Int32) (x2 : Int32) (y0 : Int32) (y1 : Int32) (σ : nm_St) : Option (Int32 × nm_St) :=
  (if y0 ≤ y1 then
    (if x1 = 0 then
      Md_ask_j51 x1 x2 (σ.1 70 2) σ
    else
      Md_ask_j51 x1 x2 (σ.1 70 3) σ)
  else
    ((Md_no (-6 : Int32) σ).bind fun q13 =>
    some (q13.1, q13.2)))
set_option maxRecDepth 100000 in
set_option maxHeartbeats 4000000 in
theorem r_Md_ask_j26 (X : nm_X) (F : nm_F) (hF0 : 1 ≤ nm_d F) (x1 : Int32) (x2 : Int32) (y0 : Int32) (y1 : Int32) (σ : nm_St) : Rn X mi_Md_ask F (nm_Qf X F nm_wI) [(0, .ref 70), (1, .int x1), (2, .int x2)] [.int y1, .int y0] 26 σ (Md_ask_j26 x1 x2 y0 y1 σ) := by
  unfold Md_ask_j26
  refine rn_icmp_le (pc := 26) 36 dk_Md_ask_26 (by decide) (fun c8 => ?_) (fun c8 => ?_)
  · refine rn_iload_n (pc := 36) 1 dk_Md_ask_36 rfl rfl ?_
    refine rn_if_ne (pc := 37) 47 dk_Md_ask_37 (by decide) (fun c9 => ?_) (fun c9 => ?_)
    · refine rn_aload_n (pc := 47) 0 dk_Md_ask_47 rfl rfl rfl ?_
      refine gf_Md_13 (pc := 48) rfl dk_Md_ask_48 ?_
      exact rn_sub (by rfl) (r_Md_ask_j51 X F hF0 x1 x2 (σ.1 70 3) σ)
    · refine rn_aload_n (pc := 40) 0 dk_Md_ask_40 rfl rfl rfl ?_
      refine gf_Md_118 (pc := 41) rfl dk_Md_ask_41 ?_
      refine rn_goto (pc := 44) 51 dk_Md_ask_44 (by decide) ?_
      exact rn_sub (by rfl) (r_Md_ask_j51 X F hF0 x1 x2 (σ.1 70 2) σ)
  · refine rn_aload_n (pc := 29) 0 dk_Md_ask_29 rfl rfl rfl ?_
    refine rn_bipush (pc := 30) (-6 : Int32) dk_Md_ask_30 cn_b_m6 ?_
    refine cl_Md_97 (pc := 32) (As := [.int (-6 : Int32)]) (st := []) rfl (ct_Md_no X (-6 : Int32) σ) (Nat.le_trans (Nat.le_of_ble_eq_true rfl) hF0) rfl rfl (Nat.le_of_ble_eq_true rfl) dk_Md_ask_32 (fun q13 => ?_)
    exact rn_iret rfl dk_Md_ask_35
def Md_ask (p1 : Int32) (p2 : Int32) (σ : nm_St) : Option (Int32 × nm_St) :=
  (if p1 < 0 then
    ((Md_no (-6 : Int32) σ).bind fun q2 =>
    some (q2.1, q2.2))
  else
    (if (1 : Int32) < p1 then
      ((Md_no (-6 : Int32) σ).bind fun q4 =>
      some (q4.1, q4.2))
    else
      (if p2 < 0 then
        ((Md_no (-6 : Int32) σ).bind fun q6 =>
        some (q6.1, q6.2))
      else
        (if p1 = 0 then
          Md_ask_j26 p1 p2 p2 (99 : Int32) σ
        else
          Md_ask_j26 p1 p2 p2 (9999 : Int32) σ))))
set_option maxRecDepth 100000 in
set_option maxHeartbeats 4000000 in
theorem ct_Md_ask (X : nm_X) (p1 : Int32) (p2 : Int32) (σ : nm_St) : Ct X mi_Md_ask 1 nm_wI [.ref 70, .int p1, .int p2] σ (Md_ask p1 p2 σ) := by
  refine Ct.of (by decide +kernel) rfl (fun F hF0 => ?_)
  unfold Md_ask
  refine rn_iload_n (pc := 0) 1 dk_Md_ask_0 rfl rfl ?_
  refine rn_if_lt (pc := 1) 29 dk_Md_ask_1 (by decide) (fun c1 => ?_) (fun c1 => ?_)
  · refine rn_aload_n (pc := 29) 0 dk_Md_ask_29 rfl rfl rfl ?_
    refine rn_bipush (pc := 30) (-6 : Int32) dk_Md_ask_30 cn_b_m6 ?_
    refine cl_Md_97 (pc := 32) (As := [.int (-6 : Int32)]) (st := []) rfl (ct_Md_no X (-6 : Int32) σ) (Nat.le_trans (Nat.le_of_ble_eq_true rfl) hF0) rfl rfl (Nat.le_of_ble_eq_true rfl) dk_Md_ask_32 (fun q2 => ?_)
    exact rn_iret rfl dk_Md_ask_35
  · refine rn_iload_n (pc := 4) 1 dk_Md_ask_4 rfl rfl ?_
    refine rn_iconst (pc := 5) (1 : Int32) dk_Md_ask_5 cn_i_1 ?_
    refine rn_icmp_gt (pc := 6) 29 dk_Md_ask_6 (by decide) (fun c3 => ?_) (fun c3 => ?_)
    · refine rn_aload_n (pc := 29) 0 dk_Md_ask_29 rfl rfl rfl ?_
      refine rn_bipush (pc := 30) (-6 : Int32) dk_Md_ask_30 cn_b_m6 ?_
      refine cl_Md_97 (pc := 32) (As := [.int (-6 : Int32)]) (st := []) rfl (ct_Md_no X (-6 : Int32) σ) (Nat.le_trans (Nat.le_of_ble_eq_true rfl) hF0) rfl rfl (Nat.le_of_ble_eq_true rfl) dk_Md_ask_32 (fun q4 => ?_)
      exact rn_iret rfl dk_Md_ask_35
    · refine rn_iload_n (pc := 9) 2 dk_Md_ask_9 rfl rfl ?_
      refine rn_if_lt (pc := 10) 29 dk_Md_ask_10 (by decide) (fun c5 => ?_) (fun c5 => ?_)
      · refine rn_aload_n (pc := 29) 0 dk_Md_ask_29 rfl rfl rfl ?_
        refine rn_bipush (pc := 30) (-6 : Int32) dk_Md_ask_30 cn_b_m6 ?_
        refine cl_Md_97 (pc := 32) (As := [.int (-6 : Int32)]) (st := []) rfl (ct_Md_no X (-6 : Int32) σ) (Nat.le_trans (Nat.le_of_ble_eq_true rfl) hF0) rfl rfl (Nat.le_of_ble_eq_true rfl) dk_Md_ask_32 (fun q6 => ?_)
        exact rn_iret rfl dk_Md_ask_35
      · refine rn_iload_n (pc := 13) 2 dk_Md_ask_13 rfl rfl ?_
        refine rn_iload_n (pc := 14) 1 dk_Md_ask_14 rfl rfl ?_
        refine rn_if_ne (pc := 15) 23 dk_Md_ask_15 (by decide) (fun c7 => ?_) (fun c7 => ?_)
        · refine rn_sipush (pc := 23) (9999 : Int32) dk_Md_ask_23 cn_s_9999 ?_
          exact rn_sub (by rfl) (r_Md_ask_j26 X F hF0 p1 p2 p2 (9999 : Int32) σ)
        · refine rn_bipush (pc := 18) (99 : Int32) dk_Md_ask_18 cn_b_99 ?_
          refine rn_goto (pc := 20) 26 dk_Md_ask_20 (by decide) ?_
          exact rn_sub (by rfl) (r_Md_ask_j26 X F hF0 p1 p2 p2 (99 : Int32) σ)
