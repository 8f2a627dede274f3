theorem dk_Nm_isShelf_0 : decode mi_Nm_isShelf.2.1 0 = .ok (.iload_n 0, 1) := by decide +kernel
theorem dk_Nm_isShelf_1 : decode mi_Nm_isShelf.2.1 1 = .ok (.ifCond .lt 13, 3) := by decide +kernel
theorem dk_Nm_isShelf_4 : decode mi_Nm_isShelf.2.1 4 = .ok (.iload_n 0, 1) := by decide +kernel
theorem dk_Nm_isShelf_5 : decode mi_Nm_isShelf.2.1 5 = .ok (.bipush 8, 2) := by decide +kernel
theorem dk_Nm_isShelf_7 : decode mi_Nm_isShelf.2.1 7 = .ok (.if_icmp .ge 7, 3) := by decide +kernel
theorem dk_Nm_isShelf_10 : decode mi_Nm_isShelf.2.1 10 = .ok (.iconst 1, 1) := by decide +kernel
theorem dk_Nm_isShelf_11 : decode mi_Nm_isShelf.2.1 11 = .ok (.goto 4, 3) := by decide +kernel
theorem dk_Nm_isShelf_14 : decode mi_Nm_isShelf.2.1 14 = .ok (.iconst 0, 1) := by decide +kernel
theorem dk_Nm_isShelf_15 : decode mi_Nm_isShelf.2.1 15 = .ok (.ireturn, 1) := by decide +kernel
def Nm_isShelf (p0 : Int32) (σ : nm_St) : Option (Int32 × nm_St) :=
  (if p0 < 0 then
    some ((0 : Int32), σ)
  else
    (if (8 : Int32) ≤ p0 then
      some ((0 : Int32), σ)
    else
      some ((1 : Int32), σ)))
set_option maxRecDepth 100000 in
set_option maxHeartbeats 4000000 in
theorem ct_Nm_isShelf (X : nm_X) (p0 : Int32) (σ : nm_St) : Ct X mi_Nm_isShelf 0 nm_wI [.int p0] σ (Nm_isShelf p0 σ) := by
  refine Ct.of (by decide +kernel) rfl (fun F hF0 => ?_)
  unfold Nm_isShelf
  refine rn_iload_n (pc := 0) 0 dk_Nm_isShelf_0 rfl rfl ?_
  refine rn_if_lt (pc := 1) 14 dk_Nm_isShelf_1 (by decide) (fun c1 => ?_) (fun c1 => ?_)
  · refine rn_iconst (pc := 14) (0 : Int32) dk_Nm_isShelf_14 cn_i_0 ?_
    exact rn_zret (ty := .boolean) rfl rfl dk_Nm_isShelf_15
  · refine rn_iload_n (pc := 4) 0 dk_Nm_isShelf_4 rfl rfl ?_
    refine rn_bipush (pc := 5) (8 : Int32) dk_Nm_isShelf_5 cn_b_8 ?_
    refine rn_icmp_ge (pc := 7) 14 dk_Nm_isShelf_7 (by decide) (fun c2 => ?_) (fun c2 => ?_)
    · refine rn_iconst (pc := 14) (0 : Int32) dk_Nm_isShelf_14 cn_i_0 ?_
      exact rn_zret (ty := .boolean) rfl rfl dk_Nm_isShelf_15
    · refine rn_iconst (pc := 10) (1 : Int32) dk_Nm_isShelf_10 cn_i_1 ?_
      refine rn_goto (pc := 11) 15 dk_Nm_isShelf_11 (by decide) ?_
      exact rn_zret (ty := .boolean) rfl rfl dk_Nm_isShelf_15
theorem dk_Nm_refuse_0 : decode mi_Nm_refuse.2.1 0 = .ok (.iload_n 1, 1) := by decide +kernel
theorem dk_Nm_refuse_1 : decode mi_Nm_refuse.2.1 1 = .ok (.ineg, 1) := by decide +kernel
theorem dk_Nm_refuse_2 : decode mi_Nm_refuse.2.1 2 = .ok (.istore_n 2, 1) := by decide +kernel
theorem dk_Nm_refuse_3 : decode mi_Nm_refuse.2.1 3 = .ok (.iload_n 2, 1) := by decide +kernel
theorem dk_Nm_refuse_4 : decode mi_Nm_refuse.2.1 4 = .ok (.ifCond .le 19, 3) := by decide +kernel
theorem dk_Nm_refuse_7 : decode mi_Nm_refuse.2.1 7 = .ok (.iload_n 2, 1) := by decide +kernel
theorem dk_Nm_refuse_8 : decode mi_Nm_refuse.2.1 8 = .ok (.bipush 8, 2) := by decide +kernel
theorem dk_Nm_refuse_10 : decode mi_Nm_refuse.2.1 10 = .ok (.if_icmp .ge 13, 3) := by decide +kernel
theorem dk_Nm_refuse_13 : decode mi_Nm_refuse.2.1 13 = .ok (.aload_n 0, 1) := by decide +kernel
theorem dk_Nm_refuse_14 : decode mi_Nm_refuse.2.1 14 = .ok (.getfield 56, 3) := by decide +kernel
theorem dk_Nm_refuse_17 : decode mi_Nm_refuse.2.1 17 = .ok (.iload_n 2, 1) := by decide +kernel
theorem dk_Nm_refuse_18 : decode mi_Nm_refuse.2.1 18 = .ok (.dup2, 1) := by decide +kernel
theorem dk_Nm_refuse_19 : decode mi_Nm_refuse.2.1 19 = .ok (.iaload, 1) := by decide +kernel
theorem dk_Nm_refuse_20 : decode mi_Nm_refuse.2.1 20 = .ok (.iconst 1, 1) := by decide +kernel
theorem dk_Nm_refuse_21 : decode mi_Nm_refuse.2.1 21 = .ok (.iadd, 1) := by decide +kernel
theorem dk_Nm_refuse_22 : decode mi_Nm_refuse.2.1 22 = .ok (.iastore, 1) := by decide +kernel
theorem dk_Nm_refuse_23 : decode mi_Nm_refuse.2.1 23 = .ok (.iload_n 1, 1) := by decide +kernel
theorem dk_Nm_refuse_24 : decode mi_Nm_refuse.2.1 24 = .ok (.ireturn, 1) := by decide +kernel
def Nm_refuse (p1 : Int32) (σ : nm_St) : Option (Int32 × nm_St) :=
  (if (-p1) ≤ 0 then
    some (p1, σ)
  else
    (if (8 : Int32) ≤ (-p1) then
      some (p1, σ)
    else
      (nm_g (nm_in (-p1) 8) (
      (nm_g (nm_in (-p1) 8) (
      (nm_let (nm_pI σ 53 (-p1).toNatClampNeg ((σ.1 53 (-p1).toNatClampNeg) + (1 : Int32))) fun s5 =>
      some (p1, s5))))))))
set_option maxRecDepth 100000 in
set_option maxHeartbeats 4000000 in
theorem ct_Nm_refuse (X : nm_X) (p1 : Int32) (σ : nm_St) : Ct X mi_Nm_refuse 0 nm_wI [.ref 0, .int p1] σ (Nm_refuse p1 σ) := by
  refine Ct.of (by decide +kernel) rfl (fun F hF0 => ?_)
  unfold Nm_refuse
  refine rn_iload_n (pc := 0) 1 dk_Nm_refuse_0 rfl rfl ?_
  refine rn_ineg (pc := 1) dk_Nm_refuse_1 ?_
  refine rn_istore_n (pc := 2) 2 dk_Nm_refuse_2 rfl rfl rfl ?_
  refine rn_iload_n (pc := 3) 2 dk_Nm_refuse_3 rfl rfl ?_
  refine rn_if_le (pc := 4) 23 dk_Nm_refuse_4 (by decide) (fun c1 => ?_) (fun c1 => ?_)
  · refine rn_iload_n (pc := 23) 1 dk_Nm_refuse_23 rfl rfl ?_
    exact rn_iret rfl dk_Nm_refuse_24
  · refine rn_iload_n (pc := 7) 2 dk_Nm_refuse_7 rfl rfl ?_
    refine rn_bipush (pc := 8) (8 : Int32) dk_Nm_refuse_8 cn_b_8 ?_
    refine rn_icmp_ge (pc := 10) 23 dk_Nm_refuse_10 (by decide) (fun c2 => ?_) (fun c2 => ?_)
    · refine rn_iload_n (pc := 23) 1 dk_Nm_refuse_23 rfl rfl ?_
      exact rn_iret rfl dk_Nm_refuse_24
    · refine rn_aload_n (pc := 13) 0 dk_Nm_refuse_13 rfl rfl rfl ?_
      refine gf_Nm_56 (pc := 14) rfl dk_Nm_refuse_14 ?_
      refine rn_iload_n (pc := 17) 2 dk_Nm_refuse_17 rfl rfl ?_
      refine rn_dup2 (pc := 18) dk_Nm_refuse_18 rfl rfl ?_
      refine rn_iaload (pc := 19) rfl dk_Nm_refuse_19 (fun g3 => ?_)
      refine rn_iconst (pc := 20) (1 : Int32) dk_Nm_refuse_20 cn_i_1 ?_
      refine rn_iadd (pc := 21) dk_Nm_refuse_21 ?_
      refine rn_iastore (pc := 22) rfl dk_Nm_refuse_22 (fun g4 => ?_)
      refine rn_lets (fun s5 => ?_)
      refine rn_iload_n (pc := 23) 1 dk_Nm_refuse_23 rfl rfl ?_
      exact rn_iret rfl dk_Nm_refuse_24
theorem dk_Sh_holdRow_0 : decode mi_Sh_holdRow.2.1 0 = .ok (.aload_n 0, 1) := by decide +kernel
theorem dk_Sh_holdRow_1 : decode mi_Sh_holdRow.2.1 1 = .ok (.iconst 1, 1) := by decide +kernel
theorem dk_Sh_holdRow_2 : decode mi_Sh_holdRow.2.1 2 = .ok (.putfield 15, 3) := by decide +kernel
theorem dk_Sh_holdRow_5 : decode mi_Sh_holdRow.2.1 5 = .ok (.aload_n 0, 1) := by decide +kernel
theorem dk_Sh_holdRow_6 : decode mi_Sh_holdRow.2.1 6 = .ok (.iload_n 1, 1) := by decide +kernel
theorem dk_Sh_holdRow_7 : decode mi_Sh_holdRow.2.1 7 = .ok (.putfield 19, 3) := by decide +kernel
theorem dk_Sh_holdRow_10 : decode mi_Sh_holdRow.2.1 10 = .ok (.aload_n 0, 1) := by decide +kernel
theorem dk_Sh_holdRow_11 : decode mi_Sh_holdRow.2.1 11 = .ok (.iconst 0, 1) := by decide +kernel
theorem dk_Sh_holdRow_12 : decode mi_Sh_holdRow.2.1 12 = .ok (.iload_n 2, 1) := by decide +kernel
theorem dk_Sh_holdRow_13 : decode mi_Sh_holdRow.2.1 13 = .ok (.sipush 160, 3) := by decide +kernel
theorem dk_Sh_holdRow_16 : decode mi_Sh_holdRow.2.1 16 = .ok (.invokestatic 28, 3) := by decide +kernel
theorem dk_Sh_holdRow_19 : decode mi_Sh_holdRow.2.1 19 = .ok (.invokestatic 34, 3) := by decide +kernel
theorem dk_Sh_holdRow_22 : decode mi_Sh_holdRow.2.1 22 = .ok (.putfield 22, 3) := by decide +kernel
theorem dk_Sh_holdRow_25 : decode mi_Sh_holdRow.2.1 25 = .ok (.aload_n 0, 1) := by decide +kernel
theorem dk_Sh_holdRow_26 : decode mi_Sh_holdRow.2.1 26 = .ok (.iconst (-1), 1) := by decide +kernel
theorem dk_Sh_holdRow_27 : decode mi_Sh_holdRow.2.1 27 = .ok (.putfield 25, 3) := by decide +kernel
theorem dk_Sh_holdRow_30 : decode mi_Sh_holdRow.2.1 30 = .ok (.iconst 0, 1) := by decide +kernel
theorem dk_Sh_holdRow_31 : decode mi_Sh_holdRow.2.1 31 = .ok (.istore_n 3, 1) := by decide +kernel
theorem dk_Sh_holdRow_32 : decode mi_Sh_holdRow.2.1 32 = .ok (.iload_n 3, 1) := by decide +kernel
theorem dk_Sh_holdRow_33 : decode mi_Sh_holdRow.2.1 33 = .ok (.aload_n 0, 1) := by decide +kernel
theorem dk_Sh_holdRow_34 : decode mi_Sh_holdRow.2.1 34 = .ok (.getfield 22, 3) := by decide +kernel
theorem dk_Sh_holdRow_37 : decode mi_Sh_holdRow.2.1 37 = .ok (.if_icmp .ge 16, 3) := by decide +kernel
theorem dk_Sh_holdRow_40 : decode mi_Sh_holdRow.2.1 40 = .ok (.aload_n 0, 1) := by decide +kernel
theorem dk_Sh_holdRow_41 : decode mi_Sh_holdRow.2.1 41 = .ok (.getfield 9, 3) := by decide +kernel
theorem dk_Sh_holdRow_44 : decode mi_Sh_holdRow.2.1 44 = .ok (.iload_n 3, 1) := by decide +kernel
theorem dk_Sh_holdRow_45 : decode mi_Sh_holdRow.2.1 45 = .ok (.lconst 0, 1) := by decide +kernel
theorem dk_Sh_holdRow_46 : decode mi_Sh_holdRow.2.1 46 = .ok (.lastore, 1) := by decide +kernel
theorem dk_Sh_holdRow_47 : decode mi_Sh_holdRow.2.1 47 = .ok (.iinc 3 1, 3) := by decide +kernel
theorem dk_Sh_holdRow_50 : decode mi_Sh_holdRow.2.1 50 = .ok (.goto (-18), 3) := by decide +kernel
theorem dk_Sh_holdRow_53 : decode mi_Sh_holdRow.2.1 53 = .ok (.return_, 1) := by decide +kernel
def Sh_holdRow_l32 (o : Nat) (k_53 : nm_St → Option (Unit × nm_St)) : Nat → Int32 → nm_St → Option (Unit × nm_St)
  | 0, _, _ => none
  | n + 1, x3, σ =>
    (if (σ.1 o 3) ≤ x3 then
      k_53 σ
    else
      (nm_g (nm_in x3 160) (
      (nm_let (nm_pJ σ (o + 1) x3.toNatClampNeg (0 : Int64)) fun s9 =>
      (Sh_holdRow_l32 o k_53 n) (x3 + (1 : Int32)) s9))))
set_option maxRecDepth 100000 in
set_option maxHeartbeats 4000000 in
theorem r_Sh_holdRow_l32 (X : nm_X) (F : nm_F) (hF0 : 1 ≤ nm_d F) (o : Nat) (ho : nm_isH o = true) (k_53 : nm_St → Option (Unit × nm_St)) (hk_53 : ∀ (σ : nm_St), Rn X mi_Sh_holdRow F (nm_Qf X F nm_wV) [] [] 53 σ (k_53 σ)) : ∀ (n : Nat) (x3 : Int32) (σ : nm_St), Rn X mi_Sh_holdRow F (nm_Qf X F nm_wV) [(0, .ref o), (3, .int x3)] [] 32 σ (Sh_holdRow_l32 o k_53 n x3 σ) := by
  intro n
  induction n with
  | zero =>
    intro x3 σ
    exact rn_none
  | succ n ih =>
    intro x3 σ
    unfold Sh_holdRow_l32
    refine rn_iload_n (pc := 32) 3 dk_Sh_holdRow_32 rfl rfl ?_
    refine rn_aload_n (pc := 33) 0 dk_Sh_holdRow_33 rfl rfl (nm_rok_isH ho) ?_
    refine gf_Sh_22 (pc := 34) o ho rfl dk_Sh_holdRow_34 ?_
    refine rn_icmp_ge (pc := 37) 53 dk_Sh_holdRow_37 (by decide) (fun c7 => ?_) (fun c7 => ?_)
    · exact rn_sub (by rfl) (hk_53 σ)
    · refine rn_aload_n (pc := 40) 0 dk_Sh_holdRow_40 rfl rfl (nm_rok_isH ho) ?_
      refine gf_Sh_9 (pc := 41) o ho rfl dk_Sh_holdRow_41 ?_
      refine rn_iload_n (pc := 44) 3 dk_Sh_holdRow_44 rfl rfl ?_
      refine rn_lconst (pc := 45) (0 : Int64) dk_Sh_holdRow_45 rfl ?_
      refine rn_lastore (pc := 46) (nm_h1 ho) dk_Sh_holdRow_46 (fun g8 => ?_)
      refine rn_lets (fun s9 => ?_)
      refine rn_iinc (pc := 47) (1 : Int32) dk_Sh_holdRow_47 cn_i_1 rfl rfl rfl ?_
      refine rn_goto (pc := 50) 32 dk_Sh_holdRow_50 (by decide) ?_
      exact rn_sub (by rfl) (ih (x3 + (1 : Int32)) s9)
def Sh_holdRow (o : Nat) (p1 : Int32) (p2 : Int32) (σ : nm_St) : Option (Unit × nm_St) :=
  (nm_let (nm_pI σ o 1 (1 : Int32)) fun s1 =>
  (nm_let (nm_pI s1 o 2 p1) fun s2 =>
  (nm_let ((if (160 : Int32) < p2 then (160 : Int32) else p2)) fun v3 =>
  (nm_let ((if (0 : Int32) < v3 then v3 else (0 : Int32))) fun v4 =>
  (nm_let (nm_pI s2 o 3 v4) fun s5 =>
  (nm_let (nm_pI s5 o 4 (-1 : Int32)) fun s6 =>
  Sh_holdRow_l32 o (fun (s10 : nm_St) =>
    some ((), s10)) 400 (0 : Int32) s6))))))
set_option maxRecDepth 100000 in
set_option maxHeartbeats 4000000 in
theorem ct_Sh_holdRow (X : nm_X) (o : Nat) (ho : nm_isH o = true) (p1 : Int32) (p2 : Int32) (σ : nm_St) : Ct X mi_Sh_holdRow 1 nm_wV [.ref o, .int p1, .int p2] σ (Sh_holdRow o p1 p2 σ) := by
  refine Ct.of (by decide +kernel) rfl (fun F hF0 => ?_)
  unfold Sh_holdRow
  refine rn_aload_n (pc := 0) 0 dk_Sh_holdRow_0 rfl rfl (nm_rok_isH ho) ?_
  refine rn_iconst (pc := 1) (1 : Int32) dk_Sh_holdRow_1 cn_i_1 ?_
  refine pf_Sh_15 (pc := 2) o ho rfl dk_Sh_holdRow_2 ?_
  refine rn_lets (fun s1 => ?_)
  refine rn_aload_n (pc := 5) 0 dk_Sh_holdRow_5 rfl rfl (nm_rok_isH ho) ?_
  refine rn_iload_n (pc := 6) 1 dk_Sh_holdRow_6 rfl rfl ?_
  refine pf_Sh_19 (pc := 7) o ho rfl dk_Sh_holdRow_7 ?_
  refine rn_lets (fun s2 => ?_)
  refine rn_aload_n (pc := 10) 0 dk_Sh_holdRow_10 rfl rfl (nm_rok_isH ho) ?_
  refine rn_iconst (pc := 11) (0 : Int32) dk_Sh_holdRow_11 cn_i_0 ?_
  refine rn_iload_n (pc := 12) 2 dk_Sh_holdRow_12 rfl rfl ?_
  refine rn_sipush (pc := 13) (160 : Int32) dk_Sh_holdRow_13 cn_s_160 ?_
  refine rn_mmin (pc := 16) (Nat.le_trans (Nat.le_of_ble_eq_true rfl) hF0) wd_336 (Nat.le_of_ble_eq_true rfl) dk_Sh_holdRow_16 ?_
  refine rn_leti (fun v3 => ?_)
  refine rn_mmax (pc := 19) (Nat.le_trans (Nat.le_of_ble_eq_true rfl) hF0) wd_339 (Nat.le_of_ble_eq_true rfl) dk_Sh_holdRow_19 ?_
  refine rn_leti (fun v4 => ?_)
  refine pf_Sh_22 (pc := 22) o ho rfl dk_Sh_holdRow_22 ?_
  refine rn_lets (fun s5 => ?_)
  refine rn_aload_n (pc := 25) 0 dk_Sh_holdRow_25 rfl rfl (nm_rok_isH ho) ?_
  refine rn_iconst (pc := 26) (-1 : Int32) dk_Sh_holdRow_26 cn_i_m1 ?_
  refine pf_Sh_25 (pc := 27) o ho rfl dk_Sh_holdRow_27 ?_
  refine rn_lets (fun s6 => ?_)
  refine rn_iconst (pc := 30) (0 : Int32) dk_Sh_holdRow_30 cn_i_0 ?_
  refine rn_istore_n (pc := 31) 3 dk_Sh_holdRow_31 rfl rfl rfl ?_
  refine rn_sub (by rfl) (r_Sh_holdRow_l32 X F hF0 o ho _ (fun s10 => ?_) 400 (0 : Int32) s6)
  exact rn_vret rfl dk_Sh_holdRow_53
theorem dk_Nm_row_0 : decode mi_Nm_row.2.1 0 = .ok (.iload_n 1, 1) := by decide +kernel
theorem dk_Nm_row_1 : decode mi_Nm_row.2.1 1 = .ok (.invokestatic 69, 3) := by decide +kernel
theorem dk_Nm_row_4 : decode mi_Nm_row.2.1 4 = .ok (.ifCond .ne 9, 3) := by decide +kernel
theorem dk_Nm_row_7 : decode mi_Nm_row.2.1 7 = .ok (.aload_n 0, 1) := by decide +kernel
theorem dk_Nm_row_8 : decode mi_Nm_row.2.1 8 = .ok (.iconst (-1), 1) := by decide +kernel
theorem dk_Nm_row_9 : decode mi_Nm_row.2.1 9 = .ok (.invokevirtual 73, 3) := by decide +kernel
theorem dk_Nm_row_12 : decode mi_Nm_row.2.1 12 = .ok (.ireturn, 1) := by decide +kernel
theorem dk_Nm_row_13 : decode mi_Nm_row.2.1 13 = .ok (.iload_n 3, 1) := by decide +kernel
theorem dk_Nm_row_14 : decode mi_Nm_row.2.1 14 = .ok (.ifCond .ge 10, 3) := by decide +kernel
theorem dk_Nm_row_17 : decode mi_Nm_row.2.1 17 = .ok (.aload_n 0, 1) := by decide +kernel
theorem dk_Nm_row_18 : decode mi_Nm_row.2.1 18 = .ok (.bipush (-4), 2) := by decide +kernel
theorem dk_Nm_row_20 : decode mi_Nm_row.2.1 20 = .ok (.invokevirtual 73, 3) := by decide +kernel
theorem dk_Nm_row_23 : decode mi_Nm_row.2.1 23 = .ok (.ireturn, 1) := by decide +kernel
theorem dk_Nm_row_24 : decode mi_Nm_row.2.1 24 = .ok (.iload_n 2, 1) := by decide +kernel
theorem dk_Nm_row_25 : decode mi_Nm_row.2.1 25 = .ok (.ifCond .lt 8, 3) := by decide +kernel
theorem dk_Nm_row_28 : decode mi_Nm_row.2.1 28 = .ok (.iload_n 2, 1) := by decide +kernel
theorem dk_Nm_row_29 : decode mi_Nm_row.2.1 29 = .ok (.iconst 3, 1) := by decide +kernel
theorem dk_Nm_row_30 : decode mi_Nm_row.2.1 30 = .ok (.if_icmp .le 10, 3) := by decide +kernel
theorem dk_Nm_row_33 : decode mi_Nm_row.2.1 33 = .ok (.aload_n 0, 1) := by decide +kernel
theorem dk_Nm_row_34 : decode mi_Nm_row.2.1 34 = .ok (.bipush (-6), 2) := by decide +kernel
theorem dk_Nm_row_36 : decode mi_Nm_row.2.1 36 = .ok (.invokevirtual 73, 3) := by decide +kernel
theorem dk_Nm_row_39 : decode mi_Nm_row.2.1 39 = .ok (.ireturn, 1) := by decide +kernel
theorem dk_Nm_row_40 : decode mi_Nm_row.2.1 40 = .ok (.iload_n 3, 1) := by decide +kernel
theorem dk_Nm_row_41 : decode mi_Nm_row.2.1 41 = .ok (.sipush 160, 3) := by decide +kernel
theorem dk_Nm_row_44 : decode mi_Nm_row.2.1 44 = .ok (.if_icmp .le 10, 3) := by decide +kernel
theorem dk_Nm_row_47 : decode mi_Nm_row.2.1 47 = .ok (.aload_n 0, 1) := by decide +kernel
theorem dk_Nm_row_48 : decode mi_Nm_row.2.1 48 = .ok (.bipush (-7), 2) := by decide +kernel
theorem dk_Nm_row_50 : decode mi_Nm_row.2.1 50 = .ok (.invokevirtual 73, 3) := by decide +kernel
theorem dk_Nm_row_53 : decode mi_Nm_row.2.1 53 = .ok (.ireturn, 1) := by decide +kernel
theorem dk_Nm_row_54 : decode mi_Nm_row.2.1 54 = .ok (.aload_n 0, 1) := by decide +kernel
theorem dk_Nm_row_55 : decode mi_Nm_row.2.1 55 = .ok (.getfield 11, 3) := by decide +kernel
theorem dk_Nm_row_58 : decode mi_Nm_row.2.1 58 = .ok (.iload_n 1, 1) := by decide +kernel
theorem dk_Nm_row_59 : decode mi_Nm_row.2.1 59 = .ok (.aaload, 1) := by decide +kernel
theorem dk_Nm_row_60 : decode mi_Nm_row.2.1 60 = .ok (.iload_n 2, 1) := by decide +kernel
theorem dk_Nm_row_61 : decode mi_Nm_row.2.1 61 = .ok (.iload_n 3, 1) := by decide +kernel
theorem dk_Nm_row_62 : decode mi_Nm_row.2.1 62 = .ok (.invokevirtual 77, 3) := by decide +kernel
theorem dk_Nm_row_65 : decode mi_Nm_row.2.1 65 = .ok (.iconst 1, 1) := by decide +kernel
theorem dk_Nm_row_66 : decode mi_Nm_row.2.1 66 = .ok (.ireturn, 1) := by decide +kernel
def Nm_row (p1 : Int32) (p2 : Int32) (p3 : Int32) (σ : nm_St) : Option (Int32 × nm_St) :=
  ((Nm_isShelf p1 σ).bind fun q1 =>
  (if q1.1 = 0 then
    ((Nm_refuse (-1 : Int32) q1.2).bind fun q13 =>
    some (q13.1, q13.2))
  else
    (if 0 ≤ p3 then
      (if p2 < 0 then
        ((Nm_refuse (-6 : Int32) q1.2).bind fun q5 =>
        some (q5.1, q5.2))
      else
        (if p2 ≤ (3 : Int32) then
          (if p3 ≤ (160 : Int32) then
            (nm_g (nm_in p1 8) (
            ((Sh_holdRow (nm_sf p1) p2 p3 q1.2).bind fun q9 =>
            some ((1 : Int32), q9.2))))
          else
            ((Nm_refuse (-7 : Int32) q1.2).bind fun q10 =>
            some (q10.1, q10.2)))
        else
          ((Nm_refuse (-6 : Int32) q1.2).bind fun q11 =>
          some (q11.1, q11.2))))
    else
      ((Nm_refuse (-4 : Int32) q1.2).bind fun q12 =>
      some (q12.1, q12.2)))))
set_option maxRecDepth 100000 in
set_option maxHeartbeats 4000000 in
theorem ct_Nm_row (X : nm_X) (p1 : Int32) (p2 : Int32) (p3 : Int32) (σ : nm_St) : Ct X mi_Nm_row 2 nm_wI [.ref 0, .int p1, .int p2, .int p3] σ (Nm_row p1 p2 p3 σ) := by
  refine Ct.of (by decide +kernel) rfl (fun F hF0 => ?_)
  unfold Nm_row
  refine rn_iload_n (pc := 0) 1 dk_Nm_row_0 rfl rfl ?_
  refine cl_Nm_69 (pc := 1) (As := [.int p1]) (st := []) rfl (ct_Nm_isShelf X p1 σ) (Nat.le_trans (Nat.le_of_ble_eq_true rfl) hF0) rfl rfl (Nat.le_of_ble_eq_true rfl) dk_Nm_row_1 (fun q1 => ?_)
  refine rn_if_ne (pc := 4) 13 dk_Nm_row_4 (by decide) (fun c2 => ?_) (fun c2 => ?_)
  · refine rn_iload_n (pc := 13) 3 dk_Nm_row_13 rfl rfl ?_
    refine rn_if_ge (pc := 14) 24 dk_Nm_row_14 (by decide) (fun c3 => ?_) (fun c3 => ?_)
    · refine rn_iload_n (pc := 24) 2 dk_Nm_row_24 rfl rfl ?_
      refine rn_if_lt (pc := 25) 33 dk_Nm_row_25 (by decide) (fun c4 => ?_) (fun c4 => ?_)
      · refine rn_aload_n (pc := 33) 0 dk_Nm_row_33 rfl rfl rfl ?_
        refine rn_bipush (pc := 34) (-6 : Int32) dk_Nm_row_34 cn_b_m6 ?_
        refine cl_Nm_73 (pc := 36) (As := [.int (-6 : Int32)]) (st := []) rfl (ct_Nm_refuse X (-6 : Int32) q1.2) (Nat.le_trans (Nat.le_of_ble_eq_true rfl) hF0) rfl rfl (Nat.le_of_ble_eq_true rfl) dk_Nm_row_36 (fun q5 => ?_)
        exact rn_iret rfl dk_Nm_row_39
      · refine rn_iload_n (pc := 28) 2 dk_Nm_row_28 rfl rfl ?_
        refine rn_iconst (pc := 29) (3 : Int32) dk_Nm_row_29 cn_i_3 ?_
        refine rn_icmp_le (pc := 30) 40 dk_Nm_row_30 (by decide) (fun c6 => ?_) (fun c6 => ?_)
        · refine rn_iload_n (pc := 40) 3 dk_Nm_row_40 rfl rfl ?_
          refine rn_sipush (pc := 41) (160 : Int32) dk_Nm_row_41 cn_s_160 ?_
          refine rn_icmp_le (pc := 44) 54 dk_Nm_row_44 (by decide) (fun c7 => ?_) (fun c7 => ?_)
          · refine rn_aload_n (pc := 54) 0 dk_Nm_row_54 rfl rfl rfl ?_
            refine gf_Nm_11 (pc := 55) rfl dk_Nm_row_55 ?_
            refine rn_iload_n (pc := 58) 1 dk_Nm_row_58 rfl rfl ?_
            refine rn_aaload (pc := 59) dk_Nm_row_59 (fun g8 => ?_)
            refine rn_iload_n (pc := 60) 2 dk_Nm_row_60 rfl rfl ?_
            refine rn_iload_n (pc := 61) 3 dk_Nm_row_61 rfl rfl ?_
            refine cl_Nm_77 (pc := 62) (As := [.int p2, .int p3]) (st := []) (nm_sf p1) (nm_sf_isH g8) rfl (ct_Sh_holdRow X (nm_sf p1) (nm_sf_isH g8) p2 p3 q1.2) (Nat.le_trans (Nat.le_of_ble_eq_true rfl) hF0) rfl rfl (Nat.le_of_ble_eq_true rfl) dk_Nm_row_62 (fun q9 => ?_)
            refine rn_iconst (pc := 65) (1 : Int32) dk_Nm_row_65 cn_i_1 ?_
            exact rn_iret rfl dk_Nm_row_66
          · refine rn_aload_n (pc := 47) 0 dk_Nm_row_47 rfl rfl rfl ?_
            refine rn_bipush (pc := 48) (-7 : Int32) dk_Nm_row_48 cn_b_m7 ?_
            refine cl_Nm_73 (pc := 50) (As := [.int (-7 : Int32)]) (st := []) rfl (ct_Nm_refuse X (-7 : Int32) q1.2) (Nat.le_trans (Nat.le_of_ble_eq_true rfl) hF0) rfl rfl (Nat.le_of_ble_eq_true rfl) dk_Nm_row_50 (fun q10 => ?_)
            exact rn_iret rfl dk_Nm_row_53
        · refine rn_aload_n (pc := 33) 0 dk_Nm_row_33 rfl rfl rfl ?_
          refine rn_bipush (pc := 34) (-6 : Int32) dk_Nm_row_34 cn_b_m6 ?_
          refine cl_Nm_73 (pc := 36) (As := [.int (-6 : Int32)]) (st := []) rfl (ct_Nm_refuse X (-6 : Int32) q1.2) (Nat.le_trans (Nat.le_of_ble_eq_true rfl) hF0) rfl rfl (Nat.le_of_ble_eq_true rfl) dk_Nm_row_36 (fun q11 => ?_)
          exact rn_iret rfl dk_Nm_row_39
    · refine rn_aload_n (pc := 17) 0 dk_Nm_row_17 rfl rfl rfl ?_
      refine rn_bipush (pc := 18) (-4 : Int32) dk_Nm_row_18 cn_b_m4 ?_
      refine cl_Nm_73 (pc := 20) (As := [.int (-4 : Int32)]) (st := []) rfl (ct_Nm_refuse X (-4 : Int32) q1.2) (Nat.le_trans (Nat.le_of_ble_eq_true rfl) hF0) rfl rfl (Nat.le_of_ble_eq_true rfl) dk_Nm_row_20 (fun q12 => ?_)
      exact rn_iret rfl dk_Nm_row_23
  · refine rn_aload_n (pc := 7) 0 dk_Nm_row_7 rfl rfl rfl ?_
    refine rn_iconst (pc := 8) (-1 : Int32) dk_Nm_row_8 cn_i_m1 ?_
    refine cl_Nm_73 (pc := 9) (As := [.int (-1 : Int32)]) (st := []) rfl (ct_Nm_refuse X (-1 : Int32) q1.2) (Nat.le_trans (Nat.le_of_ble_eq_true rfl) hF0) rfl rfl (Nat.le_of_ble_eq_true rfl) dk_Nm_row_9 (fun q13 => ?_)
    exact rn_iret rfl dk_Nm_row_12
theorem dk_Sh_isEmpty_0 : decode mi_Sh_isEmpty.2.1 0 = .ok (.aload_n 0, 1) := by decide +kernel
theorem dk_Sh_isEmpty_1 : decode mi_Sh_isEmpty.2.1 1 = .ok (.getfield 15, 3) := by decide +kernel
theorem dk_Sh_isEmpty_4 : decode mi_Sh_isEmpty.2.1 4 = .ok (.ifCond .ne 7, 3) := by decide +kernel
theorem dk_Sh_isEmpty_7 : decode mi_Sh_isEmpty.2.1 7 = .ok (.iconst 1, 1) := by decide +kernel
theorem dk_Sh_isEmpty_8 : decode mi_Sh_isEmpty.2.1 8 = .ok (.goto 4, 3) := by decide +kernel
theorem dk_Sh_isEmpty_11 : decode mi_Sh_isEmpty.2.1 11 = .ok (.iconst 0, 1) := by decide +kernel
theorem dk_Sh_isEmpty_12 : decode mi_Sh_isEmpty.2.1 12 = .ok (.ireturn, 1) := by decide +kernel
def Sh_isEmpty (o : Nat) (σ : nm_St) : Option (Int32 × nm_St) :=
  (if (σ.1 o 1) = 0 then
    some ((1 : Int32), σ)
  else
    some ((0 : Int32), σ))
set_option maxRecDepth 100000 in
set_option maxHeartbeats 4000000 in
theorem ct_Sh_isEmpty (X : nm_X) (o : Nat) (ho : nm_isH o = true) (σ : nm_St) : Ct X mi_Sh_isEmpty 0 nm_wI [.ref o] σ (Sh_isEmpty o σ) := by
  refine Ct.of (by decide +kernel) rfl (fun F hF0 => ?_)
  unfold Sh_isEmpty
  refine rn_aload_n (pc := 0) 0 dk_Sh_isEmpty_0 rfl rfl (nm_rok_isH ho) ?_
  refine gf_Sh_15 (pc := 1) o ho rfl dk_Sh_isEmpty_1 ?_
  refine rn_if_ne (pc := 4) 11 dk_Sh_isEmpty_4 (by decide) (fun c1 => ?_) (fun c1 => ?_)
  · refine rn_iconst (pc := 11) (0 : Int32) dk_Sh_isEmpty_11 cn_i_0 ?_
    exact rn_zret (ty := .boolean) rfl rfl dk_Sh_isEmpty_12
  · refine rn_iconst (pc := 7) (1 : Int32) dk_Sh_isEmpty_7 cn_i_1 ?_
    refine rn_goto (pc := 8) 12 dk_Sh_isEmpty_8 (by decide) ?_
    exact rn_zret (ty := .boolean) rfl rfl dk_Sh_isEmpty_12
theorem dk_Sh_isMaker_0 : decode mi_Sh_isMaker.2.1 0 = .ok (.aload_n 0, 1) := by decide +kernel
theorem dk_Sh_isMaker_1 : decode mi_Sh_isMaker.2.1 1 = .ok (.getfield 15, 3) := by decide +kernel
theorem dk_Sh_isMaker_4 : decode mi_Sh_isMaker.2.1 4 = .ok (.iconst 2, 1) := by decide +kernel
theorem dk_Sh_isMaker_5 : decode mi_Sh_isMaker.2.1 5 = .ok (.if_icmp .ne 7, 3) := by decide +kernel
theorem dk_Sh_isMaker_8 : decode mi_Sh_isMaker.2.1 8 = .ok (.iconst 1, 1) := by decide +kernel
theorem dk_Sh_isMaker_9 : decode mi_Sh_isMaker.2.1 9 = .ok (.goto 4, 3) := by decide +kernel
theorem dk_Sh_isMaker_12 : decode mi_Sh_isMaker.2.1 12 = .ok (.iconst 0, 1) := by decide +kernel
theorem dk_Sh_isMaker_13 : decode mi_Sh_isMaker.2.1 13 = .ok (.ireturn, 1) := by decide +kernel
def Sh_isMaker (o : Nat) (σ : nm_St) : Option (Int32 × nm_St) :=
  (if (σ.1 o 1) = (2 : Int32) then
    some ((1 : Int32), σ)
  else
    some ((0 : Int32), σ))
set_option maxRecDepth 100000 in
set_option maxHeartbeats 4000000 in
theorem ct_Sh_isMaker (X : nm_X) (o : Nat) (ho : nm_isH o = true) (σ : nm_St) : Ct X mi_Sh_isMaker 0 nm_wI [.ref o] σ (Sh_isMaker o σ) := by
  refine Ct.of (by decide +kernel) rfl (fun F hF0 => ?_)
  unfold Sh_isMaker
  refine rn_aload_n (pc := 0) 0 dk_Sh_isMaker_0 rfl rfl (nm_rok_isH ho) ?_
  refine gf_Sh_15 (pc := 1) o ho rfl dk_Sh_isMaker_1 ?_
  refine rn_iconst (pc := 4) (2 : Int32) dk_Sh_isMaker_4 cn_i_2 ?_
  refine rn_icmp_ne (pc := 5) 12 dk_Sh_isMaker_5 (by decide) (fun c1 => ?_) (fun c1 => ?_)
  · refine rn_iconst (pc := 12) (0 : Int32) dk_Sh_isMaker_12 cn_i_0 ?_
    exact rn_zret (ty := .boolean) rfl rfl dk_Sh_isMaker_13
  · refine rn_iconst (pc := 8) (1 : Int32) dk_Sh_isMaker_8 cn_i_1 ?_
    refine rn_goto (pc := 9) 13 dk_Sh_isMaker_9 (by decide) ?_
    exact rn_zret (ty := .boolean) rfl rfl dk_Sh_isMaker_13
theorem dk_Nm_checkRow_0 : decode mi_Nm_checkRow.2.1 0 = .ok (.iload_n 1, 1) := by decide +kernel
theorem dk_Nm_checkRow_1 : decode mi_Nm_checkRow.2.1 1 = .ok (.invokestatic 69, 3) := by decide +kernel
theorem dk_Nm_checkRow_4 : decode mi_Nm_checkRow.2.1 4 = .ok (.ifCond .ne 5, 3) := by decide +kernel
theorem dk_Nm_checkRow_7 : decode mi_Nm_checkRow.2.1 7 = .ok (.iconst (-1), 1) := by decide +kernel
theorem dk_Nm_checkRow_8 : decode mi_Nm_checkRow.2.1 8 = .ok (.ireturn, 1) := by decide +kernel
theorem dk_Nm_checkRow_9 : decode mi_Nm_checkRow.2.1 9 = .ok (.aload_n 0, 1) := by decide +kernel
theorem dk_Nm_checkRow_10 : decode mi_Nm_checkRow.2.1 10 = .ok (.getfield 11, 3) := by decide +kernel
theorem dk_Nm_checkRow_13 : decode mi_Nm_checkRow.2.1 13 = .ok (.iload_n 1, 1) := by decide +kernel
theorem dk_Nm_checkRow_14 : decode mi_Nm_checkRow.2.1 14 = .ok (.aaload, 1) := by decide +kernel
theorem dk_Nm_checkRow_15 : decode mi_Nm_checkRow.2.1 15 = .ok (.invokevirtual 335, 3) := by decide +kernel
theorem dk_Nm_checkRow_18 : decode mi_Nm_checkRow.2.1 18 = .ok (.ifCond .eq 6, 3) := by decide +kernel
theorem dk_Nm_checkRow_21 : decode mi_Nm_checkRow.2.1 21 = .ok (.bipush (-2), 2) := by decide +kernel
theorem dk_Nm_checkRow_23 : decode mi_Nm_checkRow.2.1 23 = .ok (.ireturn, 1) := by decide +kernel
theorem dk_Nm_checkRow_24 : decode mi_Nm_checkRow.2.1 24 = .ok (.aload_n 0, 1) := by decide +kernel
theorem dk_Nm_checkRow_25 : decode mi_Nm_checkRow.2.1 25 = .ok (.getfield 11, 3) := by decide +kernel
theorem dk_Nm_checkRow_28 : decode mi_Nm_checkRow.2.1 28 = .ok (.iload_n 1, 1) := by decide +kernel
theorem dk_Nm_checkRow_29 : decode mi_Nm_checkRow.2.1 29 = .ok (.aaload, 1) := by decide +kernel
theorem dk_Nm_checkRow_30 : decode mi_Nm_checkRow.2.1 30 = .ok (.invokevirtual 128, 3) := by decide +kernel
theorem dk_Nm_checkRow_33 : decode mi_Nm_checkRow.2.1 33 = .ok (.ifCond .eq 8, 3) := by decide +kernel
theorem dk_Nm_checkRow_36 : decode mi_Nm_checkRow.2.1 36 = .ok (.bipush (-3), 2) := by decide +kernel
theorem dk_Nm_checkRow_38 : decode mi_Nm_checkRow.2.1 38 = .ok (.goto 4, 3) := by decide +kernel
theorem dk_Nm_checkRow_41 : decode mi_Nm_checkRow.2.1 41 = .ok (.iconst 0, 1) := by decide +kernel
theorem dk_Nm_checkRow_42 : decode mi_Nm_checkRow.2.1 42 = .ok (.ireturn, 1) := by decide +kernel
def Nm_checkRow (p1 : Int32) (σ : nm_St) : Option (Int32 × nm_St) :=
  ((Nm_isShelf p1 σ).bind fun q1 =>
  (if q1.1 = 0 then
    some ((-1 : Int32), q1.2)
  else
    (nm_g (nm_in p1 8) (
    ((Sh_isMaker (nm_sf p1) q1.2).bind fun q4 =>
    (if q4.1 = 0 then
      (nm_g (nm_in p1 8) (
      ((Sh_isEmpty (nm_sf p1) q4.2).bind fun q7 =>
      (if q7.1 = 0 then
        some ((0 : Int32), q7.2)
      else
        some ((-3 : Int32), q7.2)))))
    else
      some ((-2 : Int32), q4.2)))))))
set_option maxRecDepth 100000 in
set_option maxHeartbeats 4000000 in
theorem ct_Nm_checkRow (X : nm_X) (p1 : Int32) (σ : nm_St) : Ct X mi_Nm_checkRow 1 nm_wI [.ref 0, .int p1] σ (Nm_checkRow p1 σ) := by
  refine Ct.of (by decide +kernel) rfl (fun F hF0 => ?_)
  unfold Nm_checkRow
  refine rn_iload_n (pc := 0) 1 dk_Nm_checkRow_0 rfl rfl ?_
  refine cl_Nm_69 (pc := 1) (As := [.int p1]) (st := []) rfl (ct_Nm_isShelf X p1 σ) (Nat.le_trans (Nat.le_of_ble_eq_true rfl) hF0) rfl rfl (Nat.le_of_ble_eq_true rfl) dk_Nm_checkRow_1 (fun q1 => ?_)
  refine rn_if_ne (pc := 4) 9 dk_Nm_checkRow_4 (by decide) (fun c2 => ?_) (fun c2 => ?_)
  · refine rn_aload_n (pc := 9) 0 dk_Nm_checkRow_9 rfl rfl rfl ?_
    refine gf_Nm_11 (pc := 10) rfl dk_Nm_checkRow_10 ?_
    refine rn_iload_n (pc := 13) 1 dk_Nm_checkRow_13 rfl rfl ?_
    refine rn_aaload (pc := 14) dk_Nm_checkRow_14 (fun g3 => ?_)
    refine cl_Nm_335 (pc := 15) (As := []) (st := []) (nm_sf p1) (nm_sf_isH g3) rfl (ct_Sh_isMaker X (nm_sf p1) (nm_sf_isH g3) q1.2) (Nat.le_trans (Nat.le_of_ble_eq_true rfl) hF0) rfl rfl (Nat.le_of_ble_eq_true rfl) dk_Nm_checkRow_15 (fun q4 => ?_)
    refine rn_if_eq (pc := 18) 24 dk_Nm_checkRow_18 (by decide) (fun c5 => ?_) (fun c5 => ?_)
    · refine rn_aload_n (pc := 24) 0 dk_Nm_checkRow_24 rfl rfl rfl ?_
      refine gf_Nm_11 (pc := 25) rfl dk_Nm_checkRow_25 ?_
      refine rn_iload_n (pc := 28) 1 dk_Nm_checkRow_28 rfl rfl ?_
      refine rn_aaload (pc := 29) dk_Nm_checkRow_29 (fun g6 => ?_)
      refine cl_Nm_128 (pc := 30) (As := []) (st := []) (nm_sf p1) (nm_sf_isH g6) rfl (ct_Sh_isEmpty X (nm_sf p1) (nm_sf_isH g6) q4.2) (Nat.le_trans (Nat.le_of_ble_eq_true rfl) hF0) rfl rfl (Nat.le_of_ble_eq_true rfl) dk_Nm_checkRow_30 (fun q7 => ?_)
      refine rn_if_eq (pc := 33) 41 dk_Nm_checkRow_33 (by decide) (fun c8 => ?_) (fun c8 => ?_)
      · refine rn_iconst (pc := 41) (0 : Int32) dk_Nm_checkRow_41 cn_i_0 ?_
        exact rn_iret rfl dk_Nm_checkRow_42
      · refine rn_bipush (pc := 36) (-3 : Int32) dk_Nm_checkRow_36 cn_b_m3 ?_
        refine rn_goto (pc := 38) 42 dk_Nm_checkRow_38 (by decide) ?_
        exact rn_iret rfl dk_Nm_checkRow_42
    · refine rn_bipush (pc := 21) (-2 : Int32) dk_Nm_checkRow_21 cn_b_m2 ?_
      exact rn_iret rfl dk_Nm_checkRow_23
  · refine rn_iconst (pc := 7) (-1 : Int32) dk_Nm_checkRow_7 cn_i_m1 ?_
    exact rn_iret rfl dk_Nm_checkRow_8
theorem dk_Sh_has_0 : decode mi_Sh_has.2.1 0 = .ok (.iload_n 1, 1) := by decide +kernel
theorem dk_Sh_has_1 : decode mi_Sh_has.2.1 1 = .ok (.ifCond .lt 15, 3) := by decide +kernel
theorem dk_Sh_has_4 : decode mi_Sh_has.2.1 4 = .ok (.iload_n 1, 1) := by decide +kernel
theorem dk_Sh_has_5 : decode mi_Sh_has.2.1 5 = .ok (.aload_n 0, 1) := by decide +kernel
theorem dk_Sh_has_6 : decode mi_Sh_has.2.1 6 = .ok (.getfield 22, 3) := by decide +kernel
theorem dk_Sh_has_9 : decode mi_Sh_has.2.1 9 = .ok (.if_icmp .ge 7, 3) := by decide +kernel
theorem dk_Sh_has_12 : decode mi_Sh_has.2.1 12 = .ok (.iconst 1, 1) := by decide +kernel
theorem dk_Sh_has_13 : decode mi_Sh_has.2.1 13 = .ok (.goto 4, 3) := by decide +kernel
theorem dk_Sh_has_16 : decode mi_Sh_has.2.1 16 = .ok (.iconst 0, 1) := by decide +kernel
theorem dk_Sh_has_17 : decode mi_Sh_has.2.1 17 = .ok (.ireturn, 1) := by decide +kernel
def Sh_has (o : Nat) (p1 : Int32) (σ : nm_St) : Option (Int32 × nm_St) :=
  (if p1 < 0 then
    some ((0 : Int32), σ)
  else
    (if (σ.1 o 3) ≤ p1 then
      some ((0 : Int32), σ)
    else
      some ((1 : Int32), σ)))
set_option maxRecDepth 100000 in
set_option maxHeartbeats 4000000 in
theorem ct_Sh_has (X : nm_X) (o : Nat) (ho : nm_isH o = true) (p1 : Int32) (σ : nm_St) : Ct X mi_Sh_has 0 nm_wI [.ref o, .int p1] σ (Sh_has o p1 σ) := by
  refine Ct.of (by decide +kernel) rfl (fun F hF0 => ?_)
  unfold Sh_has
  refine rn_iload_n (pc := 0) 1 dk_Sh_has_0 rfl rfl ?_
  refine rn_if_lt (pc := 1) 16 dk_Sh_has_1 (by decide) (fun c1 => ?_) (fun c1 => ?_)
  · refine rn_iconst (pc := 16) (0 : Int32) dk_Sh_has_16 cn_i_0 ?_
    exact rn_zret (ty := .boolean) rfl rfl dk_Sh_has_17
  · refine rn_iload_n (pc := 4) 1 dk_Sh_has_4 rfl rfl ?_
    refine rn_aload_n (pc := 5) 0 dk_Sh_has_5 rfl rfl (nm_rok_isH ho) ?_
    refine gf_Sh_22 (pc := 6) o ho rfl dk_Sh_has_6 ?_
    refine rn_icmp_ge (pc := 9) 16 dk_Sh_has_9 (by decide) (fun c2 => ?_) (fun c2 => ?_)
    · refine rn_iconst (pc := 16) (0 : Int32) dk_Sh_has_16 cn_i_0 ?_
      exact rn_zret (ty := .boolean) rfl rfl dk_Sh_has_17
    · refine rn_iconst (pc := 12) (1 : Int32) dk_Sh_has_12 cn_i_1 ?_
      refine rn_goto (pc := 13) 17 dk_Sh_has_13 (by decide) ?_
      exact rn_zret (ty := .boolean) rfl rfl dk_Sh_has_17
theorem dk_Sh_put_0 : decode mi_Sh_put.2.1 0 = .ok (.aload_n 0, 1) := by decide +kernel
theorem dk_Sh_put_1 : decode mi_Sh_put.2.1 1 = .ok (.iload_n 1, 1) := by decide +kernel
theorem dk_Sh_put_2 : decode mi_Sh_put.2.1 2 = .ok (.invokevirtual 37, 3) := by decide +kernel
theorem dk_Sh_put_5 : decode mi_Sh_put.2.1 5 = .ok (.ifCond .ne 4, 3) := by decide +kernel
theorem dk_Sh_put_8 : decode mi_Sh_put.2.1 8 = .ok (.return_, 1) := by decide +kernel
theorem dk_Sh_put_9 : decode mi_Sh_put.2.1 9 = .ok (.aload_n 0, 1) := by decide +kernel
theorem dk_Sh_put_10 : decode mi_Sh_put.2.1 10 = .ok (.getfield 19, 3) := by decide +kernel
theorem dk_Sh_put_13 : decode mi_Sh_put.2.1 13 = .ok (.tableswitch 65 0 2 #[27, 40, 53], 27) := by decide +kernel
theorem dk_Sh_put_40 : decode mi_Sh_put.2.1 40 = .ok (.aload_n 0, 1) := by decide +kernel
theorem dk_Sh_put_41 : decode mi_Sh_put.2.1 41 = .ok (.getfield 9, 3) := by decide +kernel
theorem dk_Sh_put_44 : decode mi_Sh_put.2.1 44 = .ok (.iload_n 1, 1) := by decide +kernel
theorem dk_Sh_put_45 : decode mi_Sh_put.2.1 45 = .ok (.lload_n 2, 1) := by decide +kernel
theorem dk_Sh_put_46 : decode mi_Sh_put.2.1 46 = .ok (.l2i, 1) := by decide +kernel
theorem dk_Sh_put_47 : decode mi_Sh_put.2.1 47 = .ok (.i2b, 1) := by decide +kernel
theorem dk_Sh_put_48 : decode mi_Sh_put.2.1 48 = .ok (.i2l, 1) := by decide +kernel
theorem dk_Sh_put_49 : decode mi_Sh_put.2.1 49 = .ok (.lastore, 1) := by decide +kernel
theorem dk_Sh_put_50 : decode mi_Sh_put.2.1 50 = .ok (.goto 35, 3) := by decide +kernel
theorem dk_Sh_put_53 : decode mi_Sh_put.2.1 53 = .ok (.aload_n 0, 1) := by decide +kernel
theorem dk_Sh_put_54 : decode mi_Sh_put.2.1 54 = .ok (.getfield 9, 3) := by decide +kernel
theorem dk_Sh_put_57 : decode mi_Sh_put.2.1 57 = .ok (.iload_n 1, 1) := by decide +kernel
theorem dk_Sh_put_58 : decode mi_Sh_put.2.1 58 = .ok (.lload_n 2, 1) := by decide +kernel
theorem dk_Sh_put_59 : decode mi_Sh_put.2.1 59 = .ok (.l2i, 1) := by decide +kernel
theorem dk_Sh_put_60 : decode mi_Sh_put.2.1 60 = .ok (.i2s, 1) := by decide +kernel
theorem dk_Sh_put_61 : decode mi_Sh_put.2.1 61 = .ok (.i2l, 1) := by decide +kernel
theorem dk_Sh_put_62 : decode mi_Sh_put.2.1 62 = .ok (.lastore, 1) := by decide +kernel
theorem dk_Sh_put_63 : decode mi_Sh_put.2.1 63 = .ok (.goto 22, 3) := by decide +kernel
theorem dk_Sh_put_66 : decode mi_Sh_put.2.1 66 = .ok (.aload_n 0, 1) := by decide +kernel
theorem dk_Sh_put_67 : decode mi_Sh_put.2.1 67 = .ok (.getfield 9, 3) := by decide +kernel
theorem dk_Sh_put_70 : decode mi_Sh_put.2.1 70 = .ok (.iload_n 1, 1) := by decide +kernel
theorem dk_Sh_put_71 : decode mi_Sh_put.2.1 71 = .ok (.lload_n 2, 1) := by decide +kernel
theorem dk_Sh_put_72 : decode mi_Sh_put.2.1 72 = .ok (.l2i, 1) := by decide +kernel
theorem dk_Sh_put_73 : decode mi_Sh_put.2.1 73 = .ok (.i2l, 1) := by decide +kernel
theorem dk_Sh_put_74 : decode mi_Sh_put.2.1 74 = .ok (.lastore, 1) := by decide +kernel
theorem dk_Sh_put_75 : decode mi_Sh_put.2.1 75 = .ok (.goto 10, 3) := by decide +kernel
theorem dk_Sh_put_78 : decode mi_Sh_put.2.1 78 = .ok (.aload_n 0, 1) := by decide +kernel
theorem dk_Sh_put_79 : decode mi_Sh_put.2.1 79 = .ok (.getfield 9, 3) := by decide +kernel
theorem dk_Sh_put_82 : decode mi_Sh_put.2.1 82 = .ok (.iload_n 1, 1) := by decide +kernel
theorem dk_Sh_put_83 : decode mi_Sh_put.2.1 83 = .ok (.lload_n 2, 1) := by decide +kernel
theorem dk_Sh_put_84 : decode mi_Sh_put.2.1 84 = .ok (.lastore, 1) := by decide +kernel
theorem dk_Sh_put_85 : decode mi_Sh_put.2.1 85 = .ok (.return_, 1) := by decide +kernel
def Sh_put (o : Nat) (p1 : Int32) (p2 : Int64) (σ : nm_St) : Option (Unit × nm_St) :=
  ((Sh_has o p1 σ).bind fun q1 =>
  (if q1.1 = 0 then
    some ((), q1.2)
  else
    (if (q1.2.1 o 2) = (0 : Int32) then
      (nm_g (nm_in p1 160) (
      (nm_let (nm_pJ q1.2 (o + 1) p1.toNatClampNeg (Int32.toInt64 (Int8.toInt32 (Int32.toInt8 (Int64.toInt32 p2))))) fun s5 =>
      some ((), s5))))
    else
    (if (q1.2.1 o 2) = (1 : Int32) then
      (nm_g (nm_in p1 160) (
      (nm_let (nm_pJ q1.2 (o + 1) p1.toNatClampNeg (Int32.toInt64 (Int16.toInt32 (Int32.toInt16 (Int64.toInt32 p2))))) fun s7 =>
      some ((), s7))))
    else
    (if (q1.2.1 o 2) = (2 : Int32) then
      (nm_g (nm_in p1 160) (
      (nm_let (nm_pJ q1.2 (o + 1) p1.toNatClampNeg (Int32.toInt64 (Int64.toInt32 p2))) fun s9 =>
      some ((), s9))))
    else
      (nm_g (nm_in p1 160) (
      (nm_let (nm_pJ q1.2 (o + 1) p1.toNatClampNeg p2) fun s11 =>
      some ((), s11)))))))))
set_option maxRecDepth 100000 in
set_option maxHeartbeats 4000000 in
theorem ct_Sh_put (X : nm_X) (o : Nat) (ho : nm_isH o = true) (p1 : Int32) (p2 : Int64) (σ : nm_St) : Ct X mi_Sh_put 1 nm_wV [.ref o, .int p1, .long p2] σ (Sh_put o p1 p2 σ) := by
  refine Ct.of (by decide +kernel) rfl (fun F hF0 => ?_)
  unfold Sh_put
  refine rn_aload_n (pc := 0) 0 dk_Sh_put_0 rfl rfl (nm_rok_isH ho) ?_
  refine rn_iload_n (pc := 1) 1 dk_Sh_put_1 rfl rfl ?_
  refine cl_Sh_37 (pc := 2) (As := [.int p1]) (st := []) o ho rfl (ct_Sh_has X o ho p1 σ) (Nat.le_trans (Nat.le_of_ble_eq_true rfl) hF0) rfl rfl (Nat.le_of_ble_eq_true rfl) dk_Sh_put_2 (fun q1 => ?_)
  refine rn_if_ne (pc := 5) 9 dk_Sh_put_5 (by decide) (fun c2 => ?_) (fun c2 => ?_)
  · refine rn_aload_n (pc := 9) 0 dk_Sh_put_9 rfl rfl (nm_rok_isH ho) ?_
    refine gf_Sh_19 (pc := 10) o ho rfl dk_Sh_put_10 ?_
    refine rn_tcase (pc := 13) 0 (0 : Int32) 40 dk_Sh_put_13 (by decide) (by decide) rfl (by decide) (fun c3_0 => ?_) (fun c3_0 => ?_)
    · refine rn_aload_n (pc := 40) 0 dk_Sh_put_40 rfl rfl (nm_rok_isH ho) ?_
      refine gf_Sh_9 (pc := 41) o ho rfl dk_Sh_put_41 ?_
      refine rn_iload_n (pc := 44) 1 dk_Sh_put_44 rfl rfl ?_
      refine rn_lload_n (pc := 45) 2 dk_Sh_put_45 rfl rfl ?_
      refine rn_l2i (pc := 46) dk_Sh_put_46 ?_
      refine rn_i2b (pc := 47) dk_Sh_put_47 ?_
      refine rn_i2l (pc := 48) dk_Sh_put_48 ?_
      refine rn_lastore (pc := 49) (nm_h1 ho) dk_Sh_put_49 (fun g4 => ?_)
      refine rn_lets (fun s5 => ?_)
      refine rn_goto (pc := 50) 85 dk_Sh_put_50 (by decide) ?_
      exact rn_vret rfl dk_Sh_put_85
    refine rn_tcase (pc := 13) 1 (1 : Int32) 53 dk_Sh_put_13 (by decide) (by decide) rfl (by decide) (fun c3_1 => ?_) (fun c3_1 => ?_)
    · refine rn_aload_n (pc := 53) 0 dk_Sh_put_53 rfl rfl (nm_rok_isH ho) ?_
      refine gf_Sh_9 (pc := 54) o ho rfl dk_Sh_put_54 ?_
      refine rn_iload_n (pc := 57) 1 dk_Sh_put_57 rfl rfl ?_
      refine rn_lload_n (pc := 58) 2 dk_Sh_put_58 rfl rfl ?_
      refine rn_l2i (pc := 59) dk_Sh_put_59 ?_
      refine rn_i2s (pc := 60) dk_Sh_put_60 ?_
      refine rn_i2l (pc := 61) dk_Sh_put_61 ?_
      refine rn_lastore (pc := 62) (nm_h1 ho) dk_Sh_put_62 (fun g6 => ?_)
      refine rn_lets (fun s7 => ?_)
      refine rn_goto (pc := 63) 85 dk_Sh_put_63 (by decide) ?_
      exact rn_vret rfl dk_Sh_put_85
    refine rn_tcase (pc := 13) 2 (2 : Int32) 66 dk_Sh_put_13 (by decide) (by decide) rfl (by decide) (fun c3_2 => ?_) (fun c3_2 => ?_)
    · refine rn_aload_n (pc := 66) 0 dk_Sh_put_66 rfl rfl (nm_rok_isH ho) ?_
      refine gf_Sh_9 (pc := 67) o ho rfl dk_Sh_put_67 ?_
      refine rn_iload_n (pc := 70) 1 dk_Sh_put_70 rfl rfl ?_
      refine rn_lload_n (pc := 71) 2 dk_Sh_put_71 rfl rfl ?_
      refine rn_l2i (pc := 72) dk_Sh_put_72 ?_
      refine rn_i2l (pc := 73) dk_Sh_put_73 ?_
      refine rn_lastore (pc := 74) (nm_h1 ho) dk_Sh_put_74 (fun g8 => ?_)
      refine rn_lets (fun s9 => ?_)
      refine rn_goto (pc := 75) 85 dk_Sh_put_75 (by decide) ?_
      exact rn_vret rfl dk_Sh_put_85
    refine rn_tdef (pc := 13) [(0 : Int32), (1 : Int32), (2 : Int32)] 78 dk_Sh_put_13 (by decide) (by decide) (List.forall_mem_cons.mpr ⟨c3_0, (List.forall_mem_cons.mpr ⟨c3_1, (List.forall_mem_cons.mpr ⟨c3_2, (fun _ h => absurd h List.not_mem_nil)⟩)⟩)⟩) (by decide) ?_
    refine rn_aload_n (pc := 78) 0 dk_Sh_put_78 rfl rfl (nm_rok_isH ho) ?_
    refine gf_Sh_9 (pc := 79) o ho rfl dk_Sh_put_79 ?_
    refine rn_iload_n (pc := 82) 1 dk_Sh_put_82 rfl rfl ?_
    refine rn_lload_n (pc := 83) 2 dk_Sh_put_83 rfl rfl ?_
    refine rn_lastore (pc := 84) (nm_h1 ho) dk_Sh_put_84 (fun g10 => ?_)
    refine rn_lets (fun s11 => ?_)
    exact rn_vret rfl dk_Sh_put_85
  · exact rn_vret rfl dk_Sh_put_8
theorem dk_Nm_set_0 : decode mi_Nm_set.2.1 0 = .ok (.aload_n 0, 1) := by decide +kernel
theorem dk_Nm_set_1 : decode mi_Nm_set.2.1 1 = .ok (.iload_n 1, 1) := by decide +kernel
theorem dk_Nm_set_2 : decode mi_Nm_set.2.1 2 = .ok (.invokevirtual 81, 3) := by decide +kernel
theorem dk_Nm_set_5 : decode mi_Nm_set.2.1 5 = .ok (.istore 5, 2) := by decide +kernel
theorem dk_Nm_set_7 : decode mi_Nm_set.2.1 7 = .ok (.iload 5, 2) := by decide +kernel
theorem dk_Nm_set_9 : decode mi_Nm_set.2.1 9 = .ok (.ifCond .ne 20, 3) := by decide +kernel
theorem dk_Nm_set_12 : decode mi_Nm_set.2.1 12 = .ok (.aload_n 0, 1) := by decide +kernel
theorem dk_Nm_set_13 : decode mi_Nm_set.2.1 13 = .ok (.getfield 11, 3) := by decide +kernel
theorem dk_Nm_set_16 : decode mi_Nm_set.2.1 16 = .ok (.iload_n 1, 1) := by decide +kernel
theorem dk_Nm_set_17 : decode mi_Nm_set.2.1 17 = .ok (.aaload, 1) := by decide +kernel
theorem dk_Nm_set_18 : decode mi_Nm_set.2.1 18 = .ok (.iload_n 2, 1) := by decide +kernel
theorem dk_Nm_set_19 : decode mi_Nm_set.2.1 19 = .ok (.invokevirtual 84, 3) := by decide +kernel
theorem dk_Nm_set_22 : decode mi_Nm_set.2.1 22 = .ok (.ifCond .ne 7, 3) := by decide +kernel
theorem dk_Nm_set_25 : decode mi_Nm_set.2.1 25 = .ok (.bipush (-5), 2) := by decide +kernel
theorem dk_Nm_set_27 : decode mi_Nm_set.2.1 27 = .ok (.istore 5, 2) := by decide +kernel
theorem dk_Nm_set_29 : decode mi_Nm_set.2.1 29 = .ok (.iload 5, 2) := by decide +kernel
theorem dk_Nm_set_31 : decode mi_Nm_set.2.1 31 = .ok (.ifCond .eq 10, 3) := by decide +kernel
theorem dk_Nm_set_34 : decode mi_Nm_set.2.1 34 = .ok (.aload_n 0, 1) := by decide +kernel
theorem dk_Nm_set_35 : decode mi_Nm_set.2.1 35 = .ok (.iload 5, 2) := by decide +kernel
theorem dk_Nm_set_37 : decode mi_Nm_set.2.1 37 = .ok (.invokevirtual 73, 3) := by decide +kernel
theorem dk_Nm_set_40 : decode mi_Nm_set.2.1 40 = .ok (.ireturn, 1) := by decide +kernel
theorem dk_Nm_set_41 : decode mi_Nm_set.2.1 41 = .ok (.aload_n 0, 1) := by decide +kernel
theorem dk_Nm_set_42 : decode mi_Nm_set.2.1 42 = .ok (.getfield 11, 3) := by decide +kernel
theorem dk_Nm_set_45 : decode mi_Nm_set.2.1 45 = .ok (.iload_n 1, 1) := by decide +kernel
theorem dk_Nm_set_46 : decode mi_Nm_set.2.1 46 = .ok (.aaload, 1) := by decide +kernel
theorem dk_Nm_set_47 : decode mi_Nm_set.2.1 47 = .ok (.iload_n 2, 1) := by decide +kernel
theorem dk_Nm_set_48 : decode mi_Nm_set.2.1 48 = .ok (.lload_n 3, 1) := by decide +kernel
theorem dk_Nm_set_49 : decode mi_Nm_set.2.1 49 = .ok (.invokevirtual 87, 3) := by decide +kernel
theorem dk_Nm_set_52 : decode mi_Nm_set.2.1 52 = .ok (.iconst 1, 1) := by decide +kernel
theorem dk_Nm_set_53 : decode mi_Nm_set.2.1 53 = .ok (.ireturn, 1) := by decide +kernel
def Nm_set_j29 (x1 : Int32) (x2 : Int32) (x3 : Int64) (x5 : Int32) (σ : nm_St) : Option (Int32 × nm_St) :=
  (if x5 = 0 then
    (nm_g (nm_in x1 8) (
    ((Sh_put (nm_sf x1) x2 x3 σ).bind fun q5 =>
    some ((1 : Int32), q5.2))))
  else
    ((Nm_refuse x5 σ).bind fun q6 =>
    some (q6.1, q6.2)))
set_option maxRecDepth 100000 in
set_option maxHeartbeats 4000000 in
theorem r_Nm_set_j29 (X : nm_X) (F : nm_F) (hF0 : 2 ≤ nm_d F) (x1 : Int32) (x2 : Int32) (x3 : Int64) (x5 : Int32) (σ : nm_St) : Rn X mi_Nm_set F (nm_Qf X F nm_wI) [(0, .ref 0), (1, .int x1), (2, .int x2), (3, .long x3), (5, .int x5)] [] 29 σ (Nm_set_j29 x1 x2 x3 x5 σ) := by
  unfold Nm_set_j29
  refine rn_iload (pc := 29) dk_Nm_set_29 rfl ?_
  refine rn_if_eq (pc := 31) 41 dk_Nm_set_31 (by decide) (fun c3 => ?_) (fun c3 => ?_)
  · refine rn_aload_n (pc := 41) 0 dk_Nm_set_41 rfl rfl rfl ?_
    refine gf_Nm_11 (pc := 42) rfl dk_Nm_set_42 ?_
    refine rn_iload_n (pc := 45) 1 dk_Nm_set_45 rfl rfl ?_
    refine rn_aaload (pc := 46) dk_Nm_set_46 (fun g4 => ?_)
    refine rn_iload_n (pc := 47) 2 dk_Nm_set_47 rfl rfl ?_
    refine rn_lload_n (pc := 48) 3 dk_Nm_set_48 rfl rfl ?_
    refine cl_Nm_87 (pc := 49) (As := [.int x2, .long x3]) (st := []) (nm_sf x1) (nm_sf_isH g4) rfl (ct_Sh_put X (nm_sf x1) (nm_sf_isH g4) x2 x3 σ) (Nat.le_trans (Nat.le_of_ble_eq_true rfl) hF0) rfl rfl (Nat.le_of_ble_eq_true rfl) dk_Nm_set_49 (fun q5 => ?_)
    refine rn_iconst (pc := 52) (1 : Int32) dk_Nm_set_52 cn_i_1 ?_
    exact rn_iret rfl dk_Nm_set_53
  · refine rn_aload_n (pc := 34) 0 dk_Nm_set_34 rfl rfl rfl ?_
    refine rn_iload (pc := 35) dk_Nm_set_35 rfl ?_
    refine cl_Nm_73 (pc := 37) (As := [.int x5]) (st := []) rfl (ct_Nm_refuse X x5 σ) (Nat.le_trans (Nat.le_of_ble_eq_true rfl) hF0) rfl rfl (Nat.le_of_ble_eq_true rfl) dk_Nm_set_37 (fun q6 => ?_)
    exact rn_iret rfl dk_Nm_set_40
def Nm_set (p1 : Int32) (p2 : Int32) (p3 : Int64) (σ : nm_St) : Option (Int32 × nm_St) :=
  ((Nm_checkRow p1 σ).bind fun q1 =>
  (if q1.1 = 0 then
    (nm_g (nm_in p1 8) (
    ((Sh_has (nm_sf p1) p2 q1.2).bind fun q8 =>
    (if q8.1 = 0 then
      Nm_set_j29 p1 p2 p3 (-5 : Int32) q8.2
    else
      Nm_set_j29 p1 p2 p3 q1.1 q8.2))))
  else
    Nm_set_j29 p1 p2 p3 q1.1 q1.2))
set_option maxRecDepth 100000 in
set_option maxHeartbeats 4000000 in
theorem ct_Nm_set (X : nm_X) (p1 : Int32) (p2 : Int32) (p3 : Int64) (σ : nm_St) : Ct X mi_Nm_set 2 nm_wI [.ref 0, .int p1, .int p2, .long p3] σ (Nm_set p1 p2 p3 σ) := by
  refine Ct.of (by decide +kernel) rfl (fun F hF0 => ?_)
  unfold Nm_set
  refine rn_aload_n (pc := 0) 0 dk_Nm_set_0 rfl rfl rfl ?_
  refine rn_iload_n (pc := 1) 1 dk_Nm_set_1 rfl rfl ?_
  refine cl_Nm_81 (pc := 2) (As := [.int p1]) (st := []) rfl (ct_Nm_checkRow X p1 σ) (Nat.le_trans (Nat.le_of_ble_eq_true rfl) hF0) rfl rfl (Nat.le_of_ble_eq_true rfl) dk_Nm_set_2 (fun q1 => ?_)
  refine rn_istore (pc := 5) dk_Nm_set_5 rfl rfl ?_
  refine rn_iload (pc := 7) dk_Nm_set_7 rfl ?_
  refine rn_if_ne (pc := 9) 29 dk_Nm_set_9 (by decide) (fun c2 => ?_) (fun c2 => ?_)
  · exact rn_sub (by rfl) (r_Nm_set_j29 X F hF0 p1 p2 p3 q1.1 q1.2)
  · refine rn_aload_n (pc := 12) 0 dk_Nm_set_12 rfl rfl rfl ?_
    refine gf_Nm_11 (pc := 13) rfl dk_Nm_set_13 ?_
    refine rn_iload_n (pc := 16) 1 dk_Nm_set_16 rfl rfl ?_
    refine rn_aaload (pc := 17) dk_Nm_set_17 (fun g7 => ?_)
    refine rn_iload_n (pc := 18) 2 dk_Nm_set_18 rfl rfl ?_
    refine cl_Nm_84 (pc := 19) (As := [.int p2]) (st := []) (nm_sf p1) (nm_sf_isH g7) rfl (ct_Sh_has X (nm_sf p1) (nm_sf_isH g7) p2 q1.2) (Nat.le_trans (Nat.le_of_ble_eq_true rfl) hF0) rfl rfl (Nat.le_of_ble_eq_true rfl) dk_Nm_set_19 (fun q8 => ?_)
    refine rn_if_ne (pc := 22) 29 dk_Nm_set_22 (by decide) (fun c9 => ?_) (fun c9 => ?_)
    · exact rn_sub (by rfl) (r_Nm_set_j29 X F hF0 p1 p2 p3 q1.1 q8.2)
    · refine rn_bipush (pc := 25) (-5 : Int32) dk_Nm_set_25 cn_b_m5 ?_
      refine rn_istore (pc := 27) dk_Nm_set_27 rfl rfl ?_
      exact rn_sub (by rfl) (r_Nm_set_j29 X F hF0 p1 p2 p3 (-5 : Int32) q8.2)
theorem dk_Nm_checkTwoRows_0 : decode mi_Nm_checkTwoRows.2.1 0 = .ok (.iload_n 1, 1) := by decide +kernel
theorem dk_Nm_checkTwoRows_1 : decode mi_Nm_checkTwoRows.2.1 1 = .ok (.invokestatic 69, 3) := by decide +kernel
theorem dk_Nm_checkTwoRows_4 : decode mi_Nm_checkTwoRows.2.1 4 = .ok (.ifCond .eq 10, 3) := by decide +kernel
theorem dk_Nm_checkTwoRows_7 : decode mi_Nm_checkTwoRows.2.1 7 = .ok (.iload_n 2, 1) := by decide +kernel
theorem dk_Nm_checkTwoRows_8 : decode mi_Nm_checkTwoRows.2.1 8 = .ok (.invokestatic 69, 3) := by decide +kernel
theorem dk_Nm_checkTwoRows_11 : decode mi_Nm_checkTwoRows.2.1 11 = .ok (.ifCond .ne 5, 3) := by decide +kernel
theorem dk_Nm_checkTwoRows_14 : decode mi_Nm_checkTwoRows.2.1 14 = .ok (.iconst (-1), 1) := by decide +kernel
theorem dk_Nm_checkTwoRows_15 : decode mi_Nm_checkTwoRows.2.1 15 = .ok (.ireturn, 1) := by decide +kernel
theorem dk_Nm_checkTwoRows_16 : decode mi_Nm_checkTwoRows.2.1 16 = .ok (.aload_n 0, 1) := by decide +kernel
theorem dk_Nm_checkTwoRows_17 : decode mi_Nm_checkTwoRows.2.1 17 = .ok (.getfield 11, 3) := by decide +kernel
theorem dk_Nm_checkTwoRows_20 : decode mi_Nm_checkTwoRows.2.1 20 = .ok (.iload_n 1, 1) := by decide +kernel
theorem dk_Nm_checkTwoRows_21 : decode mi_Nm_checkTwoRows.2.1 21 = .ok (.aaload, 1) := by decide +kernel
theorem dk_Nm_checkTwoRows_22 : decode mi_Nm_checkTwoRows.2.1 22 = .ok (.invokevirtual 335, 3) := by decide +kernel
theorem dk_Nm_checkTwoRows_25 : decode mi_Nm_checkTwoRows.2.1 25 = .ok (.ifCond .ne 15, 3) := by decide +kernel
theorem dk_Nm_checkTwoRows_28 : decode mi_Nm_checkTwoRows.2.1 28 = .ok (.aload_n 0, 1) := by decide +kernel
theorem dk_Nm_checkTwoRows_29 : decode mi_Nm_checkTwoRows.2.1 29 = .ok (.getfield 11, 3) := by decide +kernel
theorem dk_Nm_checkTwoRows_32 : decode mi_Nm_checkTwoRows.2.1 32 = .ok (.iload_n 2, 1) := by decide +kernel
theorem dk_Nm_checkTwoRows_33 : decode mi_Nm_checkTwoRows.2.1 33 = .ok (.aaload, 1) := by decide +kernel
theorem dk_Nm_checkTwoRows_34 : decode mi_Nm_checkTwoRows.2.1 34 = .ok (.invokevirtual 335, 3) := by decide +kernel
theorem dk_Nm_checkTwoRows_37 : decode mi_Nm_checkTwoRows.2.1 37 = .ok (.ifCond .eq 6, 3) := by decide +kernel
theorem dk_Nm_checkTwoRows_40 : decode mi_Nm_checkTwoRows.2.1 40 = .ok (.bipush (-2), 2) := by decide +kernel
theorem dk_Nm_checkTwoRows_42 : decode mi_Nm_checkTwoRows.2.1 42 = .ok (.ireturn, 1) := by decide +kernel
theorem dk_Nm_checkTwoRows_43 : decode mi_Nm_checkTwoRows.2.1 43 = .ok (.aload_n 0, 1) := by decide +kernel
theorem dk_Nm_checkTwoRows_44 : decode mi_Nm_checkTwoRows.2.1 44 = .ok (.getfield 11, 3) := by decide +kernel
theorem dk_Nm_checkTwoRows_47 : decode mi_Nm_checkTwoRows.2.1 47 = .ok (.iload_n 1, 1) := by decide +kernel
theorem dk_Nm_checkTwoRows_48 : decode mi_Nm_checkTwoRows.2.1 48 = .ok (.aaload, 1) := by decide +kernel
theorem dk_Nm_checkTwoRows_49 : decode mi_Nm_checkTwoRows.2.1 49 = .ok (.invokevirtual 128, 3) := by decide +kernel
theorem dk_Nm_checkTwoRows_52 : decode mi_Nm_checkTwoRows.2.1 52 = .ok (.ifCond .ne 15, 3) := by decide +kernel
theorem dk_Nm_checkTwoRows_55 : decode mi_Nm_checkTwoRows.2.1 55 = .ok (.aload_n 0, 1) := by decide +kernel
theorem dk_Nm_checkTwoRows_56 : decode mi_Nm_checkTwoRows.2.1 56 = .ok (.getfield 11, 3) := by decide +kernel
theorem dk_Nm_checkTwoRows_59 : decode mi_Nm_checkTwoRows.2.1 59 = .ok (.iload_n 2, 1) := by decide +kernel
theorem dk_Nm_checkTwoRows_60 : decode mi_Nm_checkTwoRows.2.1 60 = .ok (.aaload, 1) := by decide +kernel
theorem dk_Nm_checkTwoRows_61 : decode mi_Nm_checkTwoRows.2.1 61 = .ok (.invokevirtual 128, 3) := by decide +kernel
theorem dk_Nm_checkTwoRows_64 : decode mi_Nm_checkTwoRows.2.1 64 = .ok (.ifCond .eq 6, 3) := by decide +kernel
theorem dk_Nm_checkTwoRows_67 : decode mi_Nm_checkTwoRows.2.1 67 = .ok (.bipush (-3), 2) := by decide +kernel
theorem dk_Nm_checkTwoRows_69 : decode mi_Nm_checkTwoRows.2.1 69 = .ok (.ireturn, 1) := by decide +kernel
theorem dk_Nm_checkTwoRows_70 : decode mi_Nm_checkTwoRows.2.1 70 = .ok (.iload_n 3, 1) := by decide +kernel
theorem dk_Nm_checkTwoRows_71 : decode mi_Nm_checkTwoRows.2.1 71 = .ok (.ifCond .eq 29, 3) := by decide +kernel
theorem dk_Nm_checkTwoRows_74 : decode mi_Nm_checkTwoRows.2.1 74 = .ok (.aload_n 0, 1) := by decide +kernel
theorem dk_Nm_checkTwoRows_75 : decode mi_Nm_checkTwoRows.2.1 75 = .ok (.getfield 11, 3) := by decide +kernel
theorem dk_Nm_checkTwoRows_78 : decode mi_Nm_checkTwoRows.2.1 78 = .ok (.iload_n 1, 1) := by decide +kernel
theorem dk_Nm_checkTwoRows_79 : decode mi_Nm_checkTwoRows.2.1 79 = .ok (.aaload, 1) := by decide +kernel
theorem dk_Nm_checkTwoRows_80 : decode mi_Nm_checkTwoRows.2.1 80 = .ok (.getfield 345, 3) := by decide +kernel
theorem dk_Nm_checkTwoRows_83 : decode mi_Nm_checkTwoRows.2.1 83 = .ok (.aload_n 0, 1) := by decide +kernel
theorem dk_Nm_checkTwoRows_84 : decode mi_Nm_checkTwoRows.2.1 84 = .ok (.getfield 11, 3) := by decide +kernel
theorem dk_Nm_checkTwoRows_87 : decode mi_Nm_checkTwoRows.2.1 87 = .ok (.iload_n 2, 1) := by decide +kernel
theorem dk_Nm_checkTwoRows_88 : decode mi_Nm_checkTwoRows.2.1 88 = .ok (.aaload, 1) := by decide +kernel
theorem dk_Nm_checkTwoRows_89 : decode mi_Nm_checkTwoRows.2.1 89 = .ok (.getfield 345, 3) := by decide +kernel
theorem dk_Nm_checkTwoRows_92 : decode mi_Nm_checkTwoRows.2.1 92 = .ok (.if_icmp .eq 8, 3) := by decide +kernel
theorem dk_Nm_checkTwoRows_95 : decode mi_Nm_checkTwoRows.2.1 95 = .ok (.bipush (-2), 2) := by decide +kernel
theorem dk_Nm_checkTwoRows_97 : decode mi_Nm_checkTwoRows.2.1 97 = .ok (.goto 4, 3) := by decide +kernel
theorem dk_Nm_checkTwoRows_100 : decode mi_Nm_checkTwoRows.2.1 100 = .ok (.iconst 0, 1) := by decide +kernel
theorem dk_Nm_checkTwoRows_101 : decode mi_Nm_checkTwoRows.2.1 101 = .ok (.ireturn, 1) := by decide +kernel
def Nm_checkTwoRows (p1 : Int32) (p2 : Int32) (p3 : Int32) (σ : nm_St) : Option (Int32 × nm_St) :=
  ((Nm_isShelf p1 σ).bind fun q1 =>
  (if q1.1 = 0 then
    some ((-1 : Int32), q1.2)
  else
    ((Nm_isShelf p2 q1.2).bind fun q3 =>
    (if q3.1 = 0 then
      some ((-1 : Int32), q3.2)
    else
      (nm_g (nm_in p1 8) (
      ((Sh_isMaker (nm_sf p1) q3.2).bind fun q6 =>
      (if q6.1 = 0 then
        (nm_g (nm_in p2 8) (
        ((Sh_isMaker (nm_sf p2) q6.2).bind fun q9 =>
        (if q9.1 = 0 then
          (nm_g (nm_in p1 8) (
          ((Sh_isEmpty (nm_sf p1) q9.2).bind fun q12 =>
          (if q12.1 = 0 then
            (nm_g (nm_in p2 8) (
            ((Sh_isEmpty (nm_sf p2) q12.2).bind fun q15 =>
            (if q15.1 = 0 then
              (if p3 = 0 then
                some ((0 : Int32), q15.2)
              else
                (nm_g (nm_in p1 8) (
                (nm_g (nm_in p2 8) (
                (if (q15.2.1 (nm_sf p1) 2) = (q15.2.1 (nm_sf p2) 2) then
                  some ((0 : Int32), q15.2)
                else
                  some ((-2 : Int32), q15.2)))))))
            else
              some ((-3 : Int32), q15.2)))))
          else
            some ((-3 : Int32), q12.2)))))
        else
          some ((-2 : Int32), q9.2)))))
      else
        some ((-2 : Int32), q6.2)))))))))
set_option maxRecDepth 100000 in
set_option maxHeartbeats 4000000 in
theorem ct_Nm_checkTwoRows (X : nm_X) (p1 : Int32) (p2 : Int32) (p3 : Int32) (σ : nm_St) : Ct X mi_Nm_checkTwoRows 1 nm_wI [.ref 0, .int p1, .int p2, .int p3] σ (Nm_checkTwoRows p1 p2 p3 σ) := by
  refine Ct.of (by decide +kernel) rfl (fun F hF0 => ?_)
  unfold Nm_checkTwoRows
  refine rn_iload_n (pc := 0) 1 dk_Nm_checkTwoRows_0 rfl rfl ?_
  refine cl_Nm_69 (pc := 1) (As := [.int p1]) (st := []) rfl (ct_Nm_isShelf X p1 σ) (Nat.le_trans (Nat.le_of_ble_eq_true rfl) hF0) rfl rfl (Nat.le_of_ble_eq_true rfl) dk_Nm_checkTwoRows_1 (fun q1 => ?_)
  refine rn_if_eq (pc := 4) 14 dk_Nm_checkTwoRows_4 (by decide) (fun c2 => ?_) (fun c2 => ?_)
  · refine rn_iconst (pc := 14) (-1 : Int32) dk_Nm_checkTwoRows_14 cn_i_m1 ?_
    exact rn_iret rfl dk_Nm_checkTwoRows_15
  · refine rn_iload_n (pc := 7) 2 dk_Nm_checkTwoRows_7 rfl rfl ?_
    refine cl_Nm_69 (pc := 8) (As := [.int p2]) (st := []) rfl (ct_Nm_isShelf X p2 q1.2) (Nat.le_trans (Nat.le_of_ble_eq_true rfl) hF0) rfl rfl (Nat.le_of_ble_eq_true rfl) dk_Nm_checkTwoRows_8 (fun q3 => ?_)
    refine rn_if_ne (pc := 11) 16 dk_Nm_checkTwoRows_11 (by decide) (fun c4 => ?_) (fun c4 => ?_)
    · refine rn_aload_n (pc := 16) 0 dk_Nm_checkTwoRows_16 rfl rfl rfl ?_
      refine gf_Nm_11 (pc := 17) rfl dk_Nm_checkTwoRows_17 ?_
      refine rn_iload_n (pc := 20) 1 dk_Nm_checkTwoRows_20 rfl rfl ?_
      refine rn_aaload (pc := 21) dk_Nm_checkTwoRows_21 (fun g5 => ?_)
      refine cl_Nm_335 (pc := 22) (As := []) (st := []) (nm_sf p1) (nm_sf_isH g5) rfl (ct_Sh_isMaker X (nm_sf p1) (nm_sf_isH g5) q3.2) (Nat.le_trans (Nat.le_of_ble_eq_true rfl) hF0) rfl rfl (Nat.le_of_ble_eq_true rfl) dk_Nm_checkTwoRows_22 (fun q6 => ?_)
      refine rn_if_ne (pc := 25) 40 dk_Nm_checkTwoRows_25 (by decide) (fun c7 => ?_) (fun c7 => ?_)
      · refine rn_bipush (pc := 40) (-2 : Int32) dk_Nm_checkTwoRows_40 cn_b_m2 ?_
        exact rn_iret rfl dk_Nm_checkTwoRows_42
      · refine rn_aload_n (pc := 28) 0 dk_Nm_checkTwoRows_28 rfl rfl rfl ?_
        refine gf_Nm_11 (pc := 29) rfl dk_Nm_checkTwoRows_29 ?_
        refine rn_iload_n (pc := 32) 2 dk_Nm_checkTwoRows_32 rfl rfl ?_
        refine rn_aaload (pc := 33) dk_Nm_checkTwoRows_33 (fun g8 => ?_)
        refine cl_Nm_335 (pc := 34) (As := []) (st := []) (nm_sf p2) (nm_sf_isH g8) rfl (ct_Sh_isMaker X (nm_sf p2) (nm_sf_isH g8) q6.2) (Nat.le_trans (Nat.le_of_ble_eq_true rfl) hF0) rfl rfl (Nat.le_of_ble_eq_true rfl) dk_Nm_checkTwoRows_34 (fun q9 => ?_)
        refine rn_if_eq (pc := 37) 43 dk_Nm_checkTwoRows_37 (by decide) (fun c10 => ?_) (fun c10 => ?_)
        · refine rn_aload_n (pc := 43) 0 dk_Nm_checkTwoRows_43 rfl rfl rfl ?_
          refine gf_Nm_11 (pc := 44) rfl dk_Nm_checkTwoRows_44 ?_
          refine rn_iload_n (pc := 47) 1 dk_Nm_checkTwoRows_47 rfl rfl ?_
          refine rn_aaload (pc := 48) dk_Nm_checkTwoRows_48 (fun g11 => ?_)
          refine cl_Nm_128 (pc := 49) (As := []) (st := []) (nm_sf p1) (nm_sf_isH g11) rfl (ct_Sh_isEmpty X (nm_sf p1) (nm_sf_isH g11) q9.2) (Nat.le_trans (Nat.le_of_ble_eq_true rfl) hF0) rfl rfl (Nat.le_of_ble_eq_true rfl) dk_Nm_checkTwoRows_49 (fun q12 => ?_)
          refine rn_if_ne (pc := 52) 67 dk_Nm_checkTwoRows_52 (by decide) (fun c13 => ?_) (fun c13 => ?_)
          · refine rn_bipush (pc := 67) (-3 : Int32) dk_Nm_checkTwoRows_67 cn_b_m3 ?_
            exact rn_iret rfl dk_Nm_checkTwoRows_69
          · refine rn_aload_n (pc := 55) 0 dk_Nm_checkTwoRows_55 rfl rfl rfl ?_
            refine gf_Nm_11 (pc := 56) rfl dk_Nm_checkTwoRows_56 ?_
            refine rn_iload_n (pc := 59) 2 dk_Nm_checkTwoRows_59 rfl rfl ?_
            refine rn_aaload (pc := 60) dk_Nm_checkTwoRows_60 (fun g14 => ?_)
            refine cl_Nm_128 (pc := 61) (As := []) (st := []) (nm_sf p2) (nm_sf_isH g14) rfl (ct_Sh_isEmpty X (nm_sf p2) (nm_sf_isH g14) q12.2) (Nat.le_trans (Nat.le_of_ble_eq_true rfl) hF0) rfl rfl (Nat.le_of_ble_eq_true rfl) dk_Nm_checkTwoRows_61 (fun q15 => ?_)
            refine rn_if_eq (pc := 64) 70 dk_Nm_checkTwoRows_64 (by decide) (fun c16 => ?_) (fun c16 => ?_)
            · refine rn_iload_n (pc := 70) 3 dk_Nm_checkTwoRows_70 rfl rfl ?_
              refine rn_if_eq (pc := 71) 100 dk_Nm_checkTwoRows_71 (by decide) (fun c17 => ?_) (fun c17 => ?_)
              · refine rn_iconst (pc := 100) (0 : Int32) dk_Nm_checkTwoRows_100 cn_i_0 ?_
                exact rn_iret rfl dk_Nm_checkTwoRows_101
              · refine rn_aload_n (pc := 74) 0 dk_Nm_checkTwoRows_74 rfl rfl rfl ?_
                refine gf_Nm_11 (pc := 75) rfl dk_Nm_checkTwoRows_75 ?_
                refine rn_iload_n (pc := 78) 1 dk_Nm_checkTwoRows_78 rfl rfl ?_
                refine rn_aaload (pc := 79) dk_Nm_checkTwoRows_79 (fun g18 => ?_)
                refine gf_Nm_345 (pc := 80) (nm_sf p1) (nm_sf_isH g18) rfl dk_Nm_checkTwoRows_80 ?_
                refine rn_aload_n (pc := 83) 0 dk_Nm_checkTwoRows_83 rfl rfl rfl ?_
                refine gf_Nm_11 (pc := 84) rfl dk_Nm_checkTwoRows_84 ?_
                refine rn_iload_n (pc := 87) 2 dk_Nm_checkTwoRows_87 rfl rfl ?_
                refine rn_aaload (pc := 88) dk_Nm_checkTwoRows_88 (fun g19 => ?_)
                refine gf_Nm_345 (pc := 89) (nm_sf p2) (nm_sf_isH g19) rfl dk_Nm_checkTwoRows_89 ?_
                refine rn_icmp_eq (pc := 92) 100 dk_Nm_checkTwoRows_92 (by decide) (fun c20 => ?_) (fun c20 => ?_)
                · refine rn_iconst (pc := 100) (0 : Int32) dk_Nm_checkTwoRows_100 cn_i_0 ?_
                  exact rn_iret rfl dk_Nm_checkTwoRows_101
                · refine rn_bipush (pc := 95) (-2 : Int32) dk_Nm_checkTwoRows_95 cn_b_m2 ?_
                  refine rn_goto (pc := 97) 101 dk_Nm_checkTwoRows_97 (by decide) ?_
                  exact rn_iret rfl dk_Nm_checkTwoRows_101
            · refine rn_bipush (pc := 67) (-3 : Int32) dk_Nm_checkTwoRows_67 cn_b_m3 ?_
              exact rn_iret rfl dk_Nm_checkTwoRows_69
        · refine rn_bipush (pc := 40) (-2 : Int32) dk_Nm_checkTwoRows_40 cn_b_m2 ?_
          exact rn_iret rfl dk_Nm_checkTwoRows_42
    · refine rn_iconst (pc := 14) (-1 : Int32) dk_Nm_checkTwoRows_14 cn_i_m1 ?_
      exact rn_iret rfl dk_Nm_checkTwoRows_15
theorem dk_Sh_hasAll_0 : decode mi_Sh_hasAll.2.1 0 = .ok (.iload_n 1, 1) := by decide +kernel
theorem dk_Sh_hasAll_1 : decode mi_Sh_hasAll.2.1 1 = .ok (.ifCond .lt 21, 3) := by decide +kernel
theorem dk_Sh_hasAll_4 : decode mi_Sh_hasAll.2.1 4 = .ok (.iload_n 2, 1) := by decide +kernel
theorem dk_Sh_hasAll_5 : decode mi_Sh_hasAll.2.1 5 = .ok (.ifCond .lt 17, 3) := by decide +kernel
theorem dk_Sh_hasAll_8 : decode mi_Sh_hasAll.2.1 8 = .ok (.iload_n 1, 1) := by decide +kernel
theorem dk_Sh_hasAll_9 : decode mi_Sh_hasAll.2.1 9 = .ok (.aload_n 0, 1) := by decide +kernel
theorem dk_Sh_hasAll_10 : decode mi_Sh_hasAll.2.1 10 = .ok (.getfield 22, 3) := by decide +kernel
theorem dk_Sh_hasAll_13 : decode mi_Sh_hasAll.2.1 13 = .ok (.iload_n 2, 1) := by decide +kernel
theorem dk_Sh_hasAll_14 : decode mi_Sh_hasAll.2.1 14 = .ok (.isub, 1) := by decide +kernel
theorem dk_Sh_hasAll_15 : decode mi_Sh_hasAll.2.1 15 = .ok (.if_icmp .gt 7, 3) := by decide +kernel
theorem dk_Sh_hasAll_18 : decode mi_Sh_hasAll.2.1 18 = .ok (.iconst 1, 1) := by decide +kernel
theorem dk_Sh_hasAll_19 : decode mi_Sh_hasAll.2.1 19 = .ok (.goto 4, 3) := by decide +kernel
theorem dk_Sh_hasAll_22 : decode mi_Sh_hasAll.2.1 22 = .ok (.iconst 0, 1) := by decide +kernel
theorem dk_Sh_hasAll_23 : decode mi_Sh_hasAll.2.1 23 = .ok (.ireturn, 1) := by decide +kernel
def Sh_hasAll (o : Nat) (p1 : Int32) (p2 : Int32) (σ : nm_St) : Option (Int32 × nm_St) :=
  (if p1 < 0 then
    some ((0 : Int32), σ)
  else
    (if p2 < 0 then
      some ((0 : Int32), σ)
    else
      (if ((σ.1 o 3) - p2) < p1 then
        some ((0 : Int32), σ)
      else
        some ((1 : Int32), σ))))
set_option maxRecDepth 100000 in
set_option maxHeartbeats 4000000 in
theorem ct_Sh_hasAll (X : nm_X) (o : Nat) (ho : nm_isH o = true) (p1 : Int32) (p2 : Int32) (σ : nm_St) : Ct X mi_Sh_hasAll 0 nm_wI [.ref o, .int p1, .int p2] σ (Sh_hasAll o p1 p2 σ) := by
  refine Ct.of (by decide +kernel) rfl (fun F hF0 => ?_)
  unfold Sh_hasAll
  refine rn_iload_n (pc := 0) 1 dk_Sh_hasAll_0 rfl rfl ?_
  refine rn_if_lt (pc := 1) 22 dk_Sh_hasAll_1 (by decide) (fun c1 => ?_) (fun c1 => ?_)
  · refine rn_iconst (pc := 22) (0 : Int32) dk_Sh_hasAll_22 cn_i_0 ?_
    exact rn_zret (ty := .boolean) rfl rfl dk_Sh_hasAll_23
  · refine rn_iload_n (pc := 4) 2 dk_Sh_hasAll_4 rfl rfl ?_
    refine rn_if_lt (pc := 5) 22 dk_Sh_hasAll_5 (by decide) (fun c2 => ?_) (fun c2 => ?_)
    · refine rn_iconst (pc := 22) (0 : Int32) dk_Sh_hasAll_22 cn_i_0 ?_
      exact rn_zret (ty := .boolean) rfl rfl dk_Sh_hasAll_23
    · refine rn_iload_n (pc := 8) 1 dk_Sh_hasAll_8 rfl rfl ?_
      refine rn_aload_n (pc := 9) 0 dk_Sh_hasAll_9 rfl rfl (nm_rok_isH ho) ?_
      refine gf_Sh_22 (pc := 10) o ho rfl dk_Sh_hasAll_10 ?_
      refine rn_iload_n (pc := 13) 2 dk_Sh_hasAll_13 rfl rfl ?_
      refine rn_isub (pc := 14) dk_Sh_hasAll_14 ?_
      refine rn_icmp_gt (pc := 15) 22 dk_Sh_hasAll_15 (by decide) (fun c3 => ?_) (fun c3 => ?_)
      · refine rn_iconst (pc := 22) (0 : Int32) dk_Sh_hasAll_22 cn_i_0 ?_
        exact rn_zret (ty := .boolean) rfl rfl dk_Sh_hasAll_23
      · refine rn_iconst (pc := 18) (1 : Int32) dk_Sh_hasAll_18 cn_i_1 ?_
        refine rn_goto (pc := 19) 23 dk_Sh_hasAll_19 (by decide) ?_
        exact rn_zret (ty := .boolean) rfl rfl dk_Sh_hasAll_23
theorem dk_Sh_take_0 : decode mi_Sh_take.2.1 0 = .ok (.aload_n 1, 1) := by decide +kernel
theorem dk_Sh_take_1 : decode mi_Sh_take.2.1 1 = .ok (.iload_n 2, 1) := by decide +kernel
theorem dk_Sh_take_2 : decode mi_Sh_take.2.1 2 = .ok (.iload 4, 2) := by decide +kernel
theorem dk_Sh_take_4 : decode mi_Sh_take.2.1 4 = .ok (.invokevirtual 41, 3) := by decide +kernel
theorem dk_Sh_take_7 : decode mi_Sh_take.2.1 7 = .ok (.ifCond .eq 28, 3) := by decide +kernel
theorem dk_Sh_take_10 : decode mi_Sh_take.2.1 10 = .ok (.aload_n 0, 1) := by decide +kernel
theorem dk_Sh_take_11 : decode mi_Sh_take.2.1 11 = .ok (.iload_n 3, 1) := by decide +kernel
theorem dk_Sh_take_12 : decode mi_Sh_take.2.1 12 = .ok (.iload 4, 2) := by decide +kernel
theorem dk_Sh_take_14 : decode mi_Sh_take.2.1 14 = .ok (.invokevirtual 41, 3) := by decide +kernel
theorem dk_Sh_take_17 : decode mi_Sh_take.2.1 17 = .ok (.ifCond .eq 18, 3) := by decide +kernel
theorem dk_Sh_take_20 : decode mi_Sh_take.2.1 20 = .ok (.aload_n 1, 1) := by decide +kernel
theorem dk_Sh_take_21 : decode mi_Sh_take.2.1 21 = .ok (.getfield 9, 3) := by decide +kernel
theorem dk_Sh_take_24 : decode mi_Sh_take.2.1 24 = .ok (.iload_n 2, 1) := by decide +kernel
theorem dk_Sh_take_25 : decode mi_Sh_take.2.1 25 = .ok (.aload_n 0, 1) := by decide +kernel
theorem dk_Sh_take_26 : decode mi_Sh_take.2.1 26 = .ok (.getfield 9, 3) := by decide +kernel
theorem dk_Sh_take_29 : decode mi_Sh_take.2.1 29 = .ok (.iload_n 3, 1) := by decide +kernel
theorem dk_Sh_take_30 : decode mi_Sh_take.2.1 30 = .ok (.iload 4, 2) := by decide +kernel
theorem dk_Sh_take_32 : decode mi_Sh_take.2.1 32 = .ok (.invokestatic 45, 3) := by decide +kernel
theorem dk_Sh_take_35 : decode mi_Sh_take.2.1 35 = .ok (.return_, 1) := by decide +kernel
def Sh_take (o : Nat) (o1 : Nat) (p2 : Int32) (p3 : Int32) (p4 : Int32) (σ : nm_St) : Option (Unit × nm_St) :=
  ((Sh_hasAll o1 p2 p4 σ).bind fun q1 =>
  (if q1.1 = 0 then
    some ((), q1.2)
  else
    ((Sh_hasAll o p3 p4 q1.2).bind fun q3 =>
    (if q3.1 = 0 then
      some ((), q3.2)
    else
      (nm_g (nm_cg p2 p3 p4 160 160) (
      (nm_let (nm_cpJ q3.2 (o1 + 1) p2.toNatClampNeg (o + 1) p3.toNatClampNeg p4.toNatClampNeg) fun s5 =>
      some ((), s5))))))))
set_option maxRecDepth 100000 in
set_option maxHeartbeats 4000000 in
theorem ct_Sh_take (X : nm_X) (o : Nat) (ho : nm_isH o = true) (o1 : Nat) (ho1 : nm_isH o1 = true) (p2 : Int32) (p3 : Int32) (p4 : Int32) (σ : nm_St) : Ct X mi_Sh_take 1 nm_wV [.ref o, .ref o1, .int p2, .int p3, .int p4] σ (Sh_take o o1 p2 p3 p4 σ) := by
  refine Ct.of (by decide +kernel) rfl (fun F hF0 => ?_)
  unfold Sh_take
  refine rn_aload_n (pc := 0) 1 dk_Sh_take_0 rfl rfl (nm_rok_isH ho1) ?_
  refine rn_iload_n (pc := 1) 2 dk_Sh_take_1 rfl rfl ?_
  refine rn_iload (pc := 2) dk_Sh_take_2 rfl ?_
  refine cl_Sh_41 (pc := 4) (As := [.int p2, .int p4]) (st := []) o1 ho1 rfl (ct_Sh_hasAll X o1 ho1 p2 p4 σ) (Nat.le_trans (Nat.le_of_ble_eq_true rfl) hF0) rfl rfl (Nat.le_of_ble_eq_true rfl) dk_Sh_take_4 (fun q1 => ?_)
  refine rn_if_eq (pc := 7) 35 dk_Sh_take_7 (by decide) (fun c2 => ?_) (fun c2 => ?_)
  · exact rn_vret rfl dk_Sh_take_35
  · refine rn_aload_n (pc := 10) 0 dk_Sh_take_10 rfl rfl (nm_rok_isH ho) ?_
    refine rn_iload_n (pc := 11) 3 dk_Sh_take_11 rfl rfl ?_
    refine rn_iload (pc := 12) dk_Sh_take_12 rfl ?_
    refine cl_Sh_41 (pc := 14) (As := [.int p3, .int p4]) (st := []) o ho rfl (ct_Sh_hasAll X o ho p3 p4 q1.2) (Nat.le_trans (Nat.le_of_ble_eq_true rfl) hF0) rfl rfl (Nat.le_of_ble_eq_true rfl) dk_Sh_take_14 (fun q3 => ?_)
    refine rn_if_eq (pc := 17) 35 dk_Sh_take_17 (by decide) (fun c4 => ?_) (fun c4 => ?_)
    · exact rn_vret rfl dk_Sh_take_35
    · refine rn_aload_n (pc := 20) 1 dk_Sh_take_20 rfl rfl (nm_rok_isH ho1) ?_
      refine gf_Sh_9 (pc := 21) o1 ho1 rfl dk_Sh_take_21 ?_
      refine rn_iload_n (pc := 24) 2 dk_Sh_take_24 rfl rfl ?_
      refine rn_aload_n (pc := 25) 0 dk_Sh_take_25 rfl rfl (nm_rok_isH ho) ?_
      refine gf_Sh_9 (pc := 26) o ho rfl dk_Sh_take_26 ?_
      refine rn_iload_n (pc := 29) 3 dk_Sh_take_29 rfl rfl ?_
      refine rn_iload (pc := 30) dk_Sh_take_30 rfl ?_
      refine rn_acopyJ (pc := 32) (nm_h1 ho1) (nm_h1 ho) (Nat.le_trans (Nat.le_of_ble_eq_true rfl) hF0) (Nat.le_of_ble_eq_true rfl) wd_384 dk_Sh_take_32 ?_
      refine rn_lets (fun s5 => ?_)
      exact rn_vret rfl dk_Sh_take_35
theorem dk_Nm_copy_0 : decode mi_Nm_copy.2.1 0 = .ok (.aload_n 0, 1) := by decide +kernel
theorem dk_Nm_copy_1 : decode mi_Nm_copy.2.1 1 = .ok (.iload_n 1, 1) := by decide +kernel
theorem dk_Nm_copy_2 : decode mi_Nm_copy.2.1 2 = .ok (.iload_n 2, 1) := by decide +kernel
theorem dk_Nm_copy_3 : decode mi_Nm_copy.2.1 3 = .ok (.iconst 1, 1) := by decide +kernel
theorem dk_Nm_copy_4 : decode mi_Nm_copy.2.1 4 = .ok (.invokevirtual 91, 3) := by decide +kernel
theorem dk_Nm_copy_7 : decode mi_Nm_copy.2.1 7 = .ok (.istore 6, 2) := by decide +kernel
theorem dk_Nm_copy_9 : decode mi_Nm_copy.2.1 9 = .ok (.iload 6, 2) := by decide +kernel
theorem dk_Nm_copy_11 : decode mi_Nm_copy.2.1 11 = .ok (.ifCond .ne 12, 3) := by decide +kernel
theorem dk_Nm_copy_14 : decode mi_Nm_copy.2.1 14 = .ok (.iload 5, 2) := by decide +kernel
theorem dk_Nm_copy_16 : decode mi_Nm_copy.2.1 16 = .ok (.ifCond .ge 7, 3) := by decide +kernel
theorem dk_Nm_copy_19 : decode mi_Nm_copy.2.1 19 = .ok (.bipush (-4), 2) := by decide +kernel
theorem dk_Nm_copy_21 : decode mi_Nm_copy.2.1 21 = .ok (.istore 6, 2) := by decide +kernel
theorem dk_Nm_copy_23 : decode mi_Nm_copy.2.1 23 = .ok (.iload 6, 2) := by decide +kernel
theorem dk_Nm_copy_25 : decode mi_Nm_copy.2.1 25 = .ok (.ifCond .ne 38, 3) := by decide +kernel
theorem dk_Nm_copy_28 : decode mi_Nm_copy.2.1 28 = .ok (.aload_n 0, 1) := by decide +kernel
theorem dk_Nm_copy_29 : decode mi_Nm_copy.2.1 29 = .ok (.getfield 11, 3) := by decide +kernel
theorem dk_Nm_copy_32 : decode mi_Nm_copy.2.1 32 = .ok (.iload_n 1, 1) := by decide +kernel
theorem dk_Nm_copy_33 : decode mi_Nm_copy.2.1 33 = .ok (.aaload, 1) := by decide +kernel
theorem dk_Nm_copy_34 : decode mi_Nm_copy.2.1 34 = .ok (.iload_n 3, 1) := by decide +kernel
theorem dk_Nm_copy_35 : decode mi_Nm_copy.2.1 35 = .ok (.iload 5, 2) := by decide +kernel
theorem dk_Nm_copy_37 : decode mi_Nm_copy.2.1 37 = .ok (.invokevirtual 95, 3) := by decide +kernel
theorem dk_Nm_copy_40 : decode mi_Nm_copy.2.1 40 = .ok (.ifCond .eq 19, 3) := by decide +kernel
theorem dk_Nm_copy_43 : decode mi_Nm_copy.2.1 43 = .ok (.aload_n 0, 1) := by decide +kernel
theorem dk_Nm_copy_44 : decode mi_Nm_copy.2.1 44 = .ok (.getfield 11, 3) := by decide +kernel
theorem dk_Nm_copy_47 : decode mi_Nm_copy.2.1 47 = .ok (.iload_n 2, 1) := by decide +kernel
theorem dk_Nm_copy_48 : decode mi_Nm_copy.2.1 48 = .ok (.aaload, 1) := by decide +kernel
theorem dk_Nm_copy_49 : decode mi_Nm_copy.2.1 49 = .ok (.iload 4, 2) := by decide +kernel
theorem dk_Nm_copy_51 : decode mi_Nm_copy.2.1 51 = .ok (.iload 5, 2) := by decide +kernel
theorem dk_Nm_copy_53 : decode mi_Nm_copy.2.1 53 = .ok (.invokevirtual 95, 3) := by decide +kernel
theorem dk_Nm_copy_56 : decode mi_Nm_copy.2.1 56 = .ok (.ifCond .ne 7, 3) := by decide +kernel
theorem dk_Nm_copy_59 : decode mi_Nm_copy.2.1 59 = .ok (.bipush (-5), 2) := by decide +kernel
theorem dk_Nm_copy_61 : decode mi_Nm_copy.2.1 61 = .ok (.istore 6, 2) := by decide +kernel
theorem dk_Nm_copy_63 : decode mi_Nm_copy.2.1 63 = .ok (.iload 6, 2) := by decide +kernel
theorem dk_Nm_copy_65 : decode mi_Nm_copy.2.1 65 = .ok (.ifCond .eq 10, 3) := by decide +kernel
theorem dk_Nm_copy_68 : decode mi_Nm_copy.2.1 68 = .ok (.aload_n 0, 1) := by decide +kernel
theorem dk_Nm_copy_69 : decode mi_Nm_copy.2.1 69 = .ok (.iload 6, 2) := by decide +kernel
theorem dk_Nm_copy_71 : decode mi_Nm_copy.2.1 71 = .ok (.invokevirtual 73, 3) := by decide +kernel
theorem dk_Nm_copy_74 : decode mi_Nm_copy.2.1 74 = .ok (.ireturn, 1) := by decide +kernel
theorem dk_Nm_copy_75 : decode mi_Nm_copy.2.1 75 = .ok (.aload_n 0, 1) := by decide +kernel
theorem dk_Nm_copy_76 : decode mi_Nm_copy.2.1 76 = .ok (.getfield 11, 3) := by decide +kernel
theorem dk_Nm_copy_79 : decode mi_Nm_copy.2.1 79 = .ok (.iload_n 2, 1) := by decide +kernel
theorem dk_Nm_copy_80 : decode mi_Nm_copy.2.1 80 = .ok (.aaload, 1) := by decide +kernel
theorem dk_Nm_copy_81 : decode mi_Nm_copy.2.1 81 = .ok (.aload_n 0, 1) := by decide +kernel
theorem dk_Nm_copy_82 : decode mi_Nm_copy.2.1 82 = .ok (.getfield 11, 3) := by decide +kernel
theorem dk_Nm_copy_85 : decode mi_Nm_copy.2.1 85 = .ok (.iload_n 1, 1) := by decide +kernel
theorem dk_Nm_copy_86 : decode mi_Nm_copy.2.1 86 = .ok (.aaload, 1) := by decide +kernel
theorem dk_Nm_copy_87 : decode mi_Nm_copy.2.1 87 = .ok (.iload_n 3, 1) := by decide +kernel
theorem dk_Nm_copy_88 : decode mi_Nm_copy.2.1 88 = .ok (.iload 4, 2) := by decide +kernel
theorem dk_Nm_copy_90 : decode mi_Nm_copy.2.1 90 = .ok (.iload 5, 2) := by decide +kernel
theorem dk_Nm_copy_92 : decode mi_Nm_copy.2.1 92 = .ok (.invokevirtual 99, 3) := by decide +kernel
theorem dk_Nm_copy_95 : decode mi_Nm_copy.2.1 95 = .ok (.iconst 1, 1) := by decide +kernel
theorem dk_Nm_copy_96 : decode mi_Nm_copy.2.1 96 = .ok (.ireturn, 1) := by decide +kernel
def Nm_copy_j63 (x1 : Int32) (x2 : Int32) (x3 : Int32) (x4 : Int32) (x5 : Int32) (x6 : Int32) (σ : nm_St) : Option (Int32 × nm_St) :=
  (if x6 = 0 then
    (nm_g (nm_in x2 8) (
    (nm_g (nm_in x1 8) (
    ((Sh_take (nm_sf x2) (nm_sf x1) x3 x4 x5 σ).bind fun q7 =>
    some ((1 : Int32), q7.2))))))
  else
    ((Nm_refuse x6 σ).bind fun q8 =>
    some (q8.1, q8.2)))
set_option maxRecDepth 100000 in
set_option maxHeartbeats 4000000 in
theorem r_Nm_copy_j63 (X : nm_X) (F : nm_F) (hF0 : 2 ≤ nm_d F) (x1 : Int32) (x2 : Int32) (x3 : Int32) (x4 : Int32) (x5 : Int32) (x6 : Int32) (σ : nm_St) : Rn X mi_Nm_copy F (nm_Qf X F nm_wI) [(0, .ref 0), (1, .int x1), (2, .int x2), (3, .int x3), (4, .int x4), (5, .int x5), (6, .int x6)] [] 63 σ (Nm_copy_j63 x1 x2 x3 x4 x5 x6 σ) := by
  unfold Nm_copy_j63
  refine rn_iload (pc := 63) dk_Nm_copy_63 rfl ?_
  refine rn_if_eq (pc := 65) 75 dk_Nm_copy_65 (by decide) (fun c4 => ?_) (fun c4 => ?_)
  · refine rn_aload_n (pc := 75) 0 dk_Nm_copy_75 rfl rfl rfl ?_
    refine gf_Nm_11 (pc := 76) rfl dk_Nm_copy_76 ?_
    refine rn_iload_n (pc := 79) 2 dk_Nm_copy_79 rfl rfl ?_
    refine rn_aaload (pc := 80) dk_Nm_copy_80 (fun g5 => ?_)
    refine rn_aload_n (pc := 81) 0 dk_Nm_copy_81 rfl rfl rfl ?_
    refine gf_Nm_11 (pc := 82) rfl dk_Nm_copy_82 ?_
    refine rn_iload_n (pc := 85) 1 dk_Nm_copy_85 rfl rfl ?_
    refine rn_aaload (pc := 86) dk_Nm_copy_86 (fun g6 => ?_)
    refine rn_iload_n (pc := 87) 3 dk_Nm_copy_87 rfl rfl ?_
    refine rn_iload (pc := 88) dk_Nm_copy_88 rfl ?_
    refine rn_iload (pc := 90) dk_Nm_copy_90 rfl ?_
    refine cl_Nm_99 (pc := 92) (As := [.ref (nm_sf x1), .int x3, .int x4, .int x5]) (st := []) (nm_sf x2) (nm_sf_isH g5) rfl (ct_Sh_take X (nm_sf x2) (nm_sf_isH g5) (nm_sf x1) (nm_sf_isH g6) x3 x4 x5 σ) (Nat.le_trans (Nat.le_of_ble_eq_true rfl) hF0) rfl rfl (Nat.le_of_ble_eq_true rfl) dk_Nm_copy_92 (fun q7 => ?_)
    refine rn_iconst (pc := 95) (1 : Int32) dk_Nm_copy_95 cn_i_1 ?_
    exact rn_iret rfl dk_Nm_copy_96
  · refine rn_aload_n (pc := 68) 0 dk_Nm_copy_68 rfl rfl rfl ?_
    refine rn_iload (pc := 69) dk_Nm_copy_69 rfl ?_
    refine cl_Nm_73 (pc := 71) (As := [.int x6]) (st := []) rfl (ct_Nm_refuse X x6 σ) (Nat.le_trans (Nat.le_of_ble_eq_true rfl) hF0) rfl rfl (Nat.le_of_ble_eq_true rfl) dk_Nm_copy_71 (fun q8 => ?_)
    exact rn_iret rfl dk_Nm_copy_74
def Nm_copy_j59 (x1 : Int32) (x2 : Int32) (x3 : Int32) (x4 : Int32) (x5 : Int32) (σ : nm_St) : Option (Int32 × nm_St) :=
  Nm_copy_j63 x1 x2 x3 x4 x5 (-5 : Int32) σ
set_option maxRecDepth 100000 in
set_option maxHeartbeats 4000000 in
theorem r_Nm_copy_j59 (X : nm_X) (F : nm_F) (hF0 : 2 ≤ nm_d F) (x1 : Int32) (x2 : Int32) (x3 : Int32) (x4 : Int32) (x5 : Int32) (σ : nm_St) : Rn X mi_Nm_copy F (nm_Qf X F nm_wI) [(0, .ref 0), (1, .int x1), (2, .int x2), (3, .int x3), (4, .int x4), (5, .int x5)] [] 59 σ (Nm_copy_j59 x1 x2 x3 x4 x5 σ) := by
  unfold Nm_copy_j59
  refine rn_bipush (pc := 59) (-5 : Int32) dk_Nm_copy_59 cn_b_m5 ?_
  refine rn_istore (pc := 61) dk_Nm_copy_61 rfl rfl ?_
  exact rn_sub (by rfl) (r_Nm_copy_j63 X F hF0 x1 x2 x3 x4 x5 (-5 : Int32) σ)
def Nm_copy_j23 (x1 : Int32) (x2 : Int32) (x3 : Int32) (x4 : Int32) (x5 : Int32) (x6 : Int32) (σ : nm_St) : Option (Int32 × nm_St) :=
  (if x6 = 0 then
    (nm_g (nm_in x1 8) (
    ((Sh_hasAll (nm_sf x1) x3 x5 σ).bind fun q10 =>
    (if q10.1 = 0 then
      Nm_copy_j59 x1 x2 x3 x4 x5 q10.2
    else
      (nm_g (nm_in x2 8) (
      ((Sh_hasAll (nm_sf x2) x4 x5 q10.2).bind fun q13 =>
      (if q13.1 = 0 then
        Nm_copy_j59 x1 x2 x3 x4 x5 q13.2
      else
        Nm_copy_j63 x1 x2 x3 x4 x5 x6 q13.2))))))))
  else
    Nm_copy_j63 x1 x2 x3 x4 x5 x6 σ)
set_option maxRecDepth 100000 in
set_option maxHeartbeats 4000000 in
theorem r_Nm_copy_j23 (X : nm_X) (F : nm_F) (hF0 : 2 ≤ nm_d F) (x1 : Int32) (x2 : Int32) (x3 : Int32) (x4 : Int32) (x5 : Int32) (x6 : Int32) (σ : nm_St) : Rn X mi_Nm_copy F (nm_Qf X F nm_wI) [(0, .ref 0), (1, .int x1), (2, .int x2), (3, .int x3), (4, .int x4), (5, .int x5), (6, .int x6)] [] 23 σ (Nm_copy_j23 x1 x2 x3 x4 x5 x6 σ) := by
  unfold Nm_copy_j23
  refine rn_iload (pc := 23) dk_Nm_copy_23 rfl ?_
  refine rn_if_ne (pc := 25) 63 dk_Nm_copy_25 (by decide) (fun c3 => ?_) (fun c3 => ?_)
  · exact rn_sub (by rfl) (r_Nm_copy_j63 X F hF0 x1 x2 x3 x4 x5 x6 σ)
  · refine rn_aload_n (pc := 28) 0 dk_Nm_copy_28 rfl rfl rfl ?_
    refine gf_Nm_11 (pc := 29) rfl dk_Nm_copy_29 ?_
    refine rn_iload_n (pc := 32) 1 dk_Nm_copy_32 rfl rfl ?_
    refine rn_aaload (pc := 33) dk_Nm_copy_33 (fun g9 => ?_)
    refine rn_iload_n (pc := 34) 3 dk_Nm_copy_34 rfl rfl ?_
    refine rn_iload (pc := 35) dk_Nm_copy_35 rfl ?_
    refine cl_Nm_95 (pc := 37) (As := [.int x3, .int x5]) (st := []) (nm_sf x1) (nm_sf_isH g9) rfl (ct_Sh_hasAll X (nm_sf x1) (nm_sf_isH g9) x3 x5 σ) (Nat.le_trans (Nat.le_of_ble_eq_true rfl) hF0) rfl rfl (Nat.le_of_ble_eq_true rfl) dk_Nm_copy_37 (fun q10 => ?_)
    refine rn_if_eq (pc := 40) 59 dk_Nm_copy_40 (by decide) (fun c11 => ?_) (fun c11 => ?_)
    · exact rn_sub (by rfl) (r_Nm_copy_j59 X F hF0 x1 x2 x3 x4 x5 q10.2)
    · refine rn_aload_n (pc := 43) 0 dk_Nm_copy_43 rfl rfl rfl ?_
      refine gf_Nm_11 (pc := 44) rfl dk_Nm_copy_44 ?_
      refine rn_iload_n (pc := 47) 2 dk_Nm_copy_47 rfl rfl ?_
      refine rn_aaload (pc := 48) dk_Nm_copy_48 (fun g12 => ?_)
      refine rn_iload (pc := 49) dk_Nm_copy_49 rfl ?_
      refine rn_iload (pc := 51) dk_Nm_copy_51 rfl ?_
      refine cl_Nm_95 (pc := 53) (As := [.int x4, .int x5]) (st := []) (nm_sf x2) (nm_sf_isH g12) rfl (ct_Sh_hasAll X (nm_sf x2) (nm_sf_isH g12) x4 x5 q10.2) (Nat.le_trans (Nat.le_of_ble_eq_true rfl) hF0) rfl rfl (Nat.le_of_ble_eq_true rfl) dk_Nm_copy_53 (fun q13 => ?_)
      refine rn_if_ne (pc := 56) 63 dk_Nm_copy_56 (by decide) (fun c14 => ?_) (fun c14 => ?_)
      · exact rn_sub (by rfl) (r_Nm_copy_j63 X F hF0 x1 x2 x3 x4 x5 x6 q13.2)
      · exact rn_sub (by rfl) (r_Nm_copy_j59 X F hF0 x1 x2 x3 x4 x5 q13.2)
def Nm_copy (p1 : Int32) (p2 : Int32) (p3 : Int32) (p4 : Int32) (p5 : Int32) (σ : nm_St) : Option (Int32 × nm_St) :=
  ((Nm_checkTwoRows p1 p2 (1 : Int32) σ).bind fun q1 =>
  (if q1.1 = 0 then
    (if 0 ≤ p5 then
      Nm_copy_j23 p1 p2 p3 p4 p5 q1.1 q1.2
    else
      Nm_copy_j23 p1 p2 p3 p4 p5 (-4 : Int32) q1.2)
  else
    Nm_copy_j23 p1 p2 p3 p4 p5 q1.1 q1.2))
set_option maxRecDepth 100000 in
set_option maxHeartbeats 4000000 in
theorem ct_Nm_copy (X : nm_X) (p1 : Int32) (p2 : Int32) (p3 : Int32) (p4 : Int32) (p5 : Int32) (σ : nm_St) : Ct X mi_Nm_copy 2 nm_wI [.ref 0, .int p1, .int p2, .int p3, .int p4, .int p5] σ (Nm_copy p1 p2 p3 p4 p5 σ) := by
  refine Ct.of (by decide +kernel) rfl (fun F hF0 => ?_)
  unfold Nm_copy
  refine rn_aload_n (pc := 0) 0 dk_Nm_copy_0 rfl rfl rfl ?_
  refine rn_iload_n (pc := 1) 1 dk_Nm_copy_1 rfl rfl ?_
  refine rn_iload_n (pc := 2) 2 dk_Nm_copy_2 rfl rfl ?_
  refine rn_iconst (pc := 3) (1 : Int32) dk_Nm_copy_3 cn_i_1 ?_
  refine cl_Nm_91 (pc := 4) (As := [.int p1, .int p2, .int (1 : Int32)]) (st := []) rfl (ct_Nm_checkTwoRows X p1 p2 (1 : Int32) σ) (Nat.le_trans (Nat.le_of_ble_eq_true rfl) hF0) rfl rfl (Nat.le_of_ble_eq_true rfl) dk_Nm_copy_4 (fun q1 => ?_)
  refine rn_istore (pc := 7) dk_Nm_copy_7 rfl rfl ?_
  refine rn_iload (pc := 9) dk_Nm_copy_9 rfl ?_
  refine rn_if_ne (pc := 11) 23 dk_Nm_copy_11 (by decide) (fun c2 => ?_) (fun c2 => ?_)
  · exact rn_sub (by rfl) (r_Nm_copy_j23 X F hF0 p1 p2 p3 p4 p5 q1.1 q1.2)
  · refine rn_iload (pc := 14) dk_Nm_copy_14 rfl ?_
    refine rn_if_ge (pc := 16) 23 dk_Nm_copy_16 (by decide) (fun c15 => ?_) (fun c15 => ?_)
    · exact rn_sub (by rfl) (r_Nm_copy_j23 X F hF0 p1 p2 p3 p4 p5 q1.1 q1.2)
    · refine rn_bipush (pc := 19) (-4 : Int32) dk_Nm_copy_19 cn_b_m4 ?_
      refine rn_istore (pc := 21) dk_Nm_copy_21 rfl rfl ?_
      exact rn_sub (by rfl) (r_Nm_copy_j23 X F hF0 p1 p2 p3 p4 p5 (-4 : Int32) q1.2)
theorem dk_Sh_at_0 : decode mi_Sh_at.2.1 0 = .ok (.iload_n 1, 1) := by decide +kernel
theorem dk_Sh_at_1 : decode mi_Sh_at.2.1 1 = .ok (.ifCond .lt 20, 3) := by decide +kernel
theorem dk_Sh_at_4 : decode mi_Sh_at.2.1 4 = .ok (.iload_n 1, 1) := by decide +kernel
theorem dk_Sh_at_5 : decode mi_Sh_at.2.1 5 = .ok (.aload_n 0, 1) := by decide +kernel
theorem dk_Sh_at_6 : decode mi_Sh_at.2.1 6 = .ok (.getfield 22, 3) := by decide +kernel
theorem dk_Sh_at_9 : decode mi_Sh_at.2.1 9 = .ok (.if_icmp .ge 12, 3) := by decide +kernel
theorem dk_Sh_at_12 : decode mi_Sh_at.2.1 12 = .ok (.aload_n 0, 1) := by decide +kernel
theorem dk_Sh_at_13 : decode mi_Sh_at.2.1 13 = .ok (.getfield 9, 3) := by decide +kernel
theorem dk_Sh_at_16 : decode mi_Sh_at.2.1 16 = .ok (.iload_n 1, 1) := by decide +kernel
theorem dk_Sh_at_17 : decode mi_Sh_at.2.1 17 = .ok (.laload, 1) := by decide +kernel
theorem dk_Sh_at_18 : decode mi_Sh_at.2.1 18 = .ok (.goto 4, 3) := by decide +kernel
theorem dk_Sh_at_21 : decode mi_Sh_at.2.1 21 = .ok (.lconst 0, 1) := by decide +kernel
theorem dk_Sh_at_22 : decode mi_Sh_at.2.1 22 = .ok (.lreturn, 1) := by decide +kernel
def Sh_at (o : Nat) (p1 : Int32) (σ : nm_St) : Option (Int64 × nm_St) :=
  (if p1 < 0 then
    some ((0 : Int64), σ)
  else
    (if (σ.1 o 3) ≤ p1 then
      some ((0 : Int64), σ)
    else
      (nm_g (nm_in p1 160) (
      some ((σ.2 (o + 1) p1.toNatClampNeg), σ)))))
set_option maxRecDepth 100000 in
set_option maxHeartbeats 4000000 in
theorem ct_Sh_at (X : nm_X) (o : Nat) (ho : nm_isH o = true) (p1 : Int32) (σ : nm_St) : Ct X mi_Sh_at 0 nm_wJ [.ref o, .int p1] σ (Sh_at o p1 σ) := by
  refine Ct.of (by decide +kernel) rfl (fun F hF0 => ?_)
  unfold Sh_at
  refine rn_iload_n (pc := 0) 1 dk_Sh_at_0 rfl rfl ?_
  refine rn_if_lt (pc := 1) 21 dk_Sh_at_1 (by decide) (fun c1 => ?_) (fun c1 => ?_)
  · refine rn_lconst (pc := 21) (0 : Int64) dk_Sh_at_21 rfl ?_
    exact rn_lret rfl dk_Sh_at_22
  · refine rn_iload_n (pc := 4) 1 dk_Sh_at_4 rfl rfl ?_
    refine rn_aload_n (pc := 5) 0 dk_Sh_at_5 rfl rfl (nm_rok_isH ho) ?_
    refine gf_Sh_22 (pc := 6) o ho rfl dk_Sh_at_6 ?_
    refine rn_icmp_ge (pc := 9) 21 dk_Sh_at_9 (by decide) (fun c2 => ?_) (fun c2 => ?_)
    · refine rn_lconst (pc := 21) (0 : Int64) dk_Sh_at_21 rfl ?_
      exact rn_lret rfl dk_Sh_at_22
    · refine rn_aload_n (pc := 12) 0 dk_Sh_at_12 rfl rfl (nm_rok_isH ho) ?_
      refine gf_Sh_9 (pc := 13) o ho rfl dk_Sh_at_13 ?_
      refine rn_iload_n (pc := 16) 1 dk_Sh_at_16 rfl rfl ?_
      refine rn_laload (pc := 17) (nm_h1 ho) dk_Sh_at_17 (fun g3 => ?_)
      refine rn_goto (pc := 18) 22 dk_Sh_at_18 (by decide) ?_
      exact rn_lret rfl dk_Sh_at_22
theorem dk_Nm_element_0 : decode mi_Nm_element.2.1 0 = .ok (.iload_n 1, 1) := by decide +kernel
theorem dk_Nm_element_1 : decode mi_Nm_element.2.1 1 = .ok (.invokestatic 69, 3) := by decide +kernel
theorem dk_Nm_element_4 : decode mi_Nm_element.2.1 4 = .ok (.ifCond .eq 16, 3) := by decide +kernel
theorem dk_Nm_element_7 : decode mi_Nm_element.2.1 7 = .ok (.aload_n 0, 1) := by decide +kernel
theorem dk_Nm_element_8 : decode mi_Nm_element.2.1 8 = .ok (.getfield 11, 3) := by decide +kernel
theorem dk_Nm_element_11 : decode mi_Nm_element.2.1 11 = .ok (.iload_n 1, 1) := by decide +kernel
theorem dk_Nm_element_12 : decode mi_Nm_element.2.1 12 = .ok (.aaload, 1) := by decide +kernel
theorem dk_Nm_element_13 : decode mi_Nm_element.2.1 13 = .ok (.iload_n 2, 1) := by decide +kernel
theorem dk_Nm_element_14 : decode mi_Nm_element.2.1 14 = .ok (.invokevirtual 103, 3) := by decide +kernel
theorem dk_Nm_element_17 : decode mi_Nm_element.2.1 17 = .ok (.goto 4, 3) := by decide +kernel
theorem dk_Nm_element_20 : decode mi_Nm_element.2.1 20 = .ok (.lconst 0, 1) := by decide +kernel
theorem dk_Nm_element_21 : decode mi_Nm_element.2.1 21 = .ok (.lreturn, 1) := by decide +kernel
def Nm_element (p1 : Int32) (p2 : Int32) (σ : nm_St) : Option (Int64 × nm_St) :=
  ((Nm_isShelf p1 σ).bind fun q1 =>
  (if q1.1 = 0 then
    some ((0 : Int64), q1.2)
  else
    (nm_g (nm_in p1 8) (
    ((Sh_at (nm_sf p1) p2 q1.2).bind fun q4 =>
    some (q4.1, q4.2))))))
set_option maxRecDepth 100000 in
set_option maxHeartbeats 4000000 in
theorem ct_Nm_element (X : nm_X) (p1 : Int32) (p2 : Int32) (σ : nm_St) : Ct X mi_Nm_element 1 nm_wJ [.ref 0, .int p1, .int p2] σ (Nm_element p1 p2 σ) := by
  refine Ct.of (by decide +kernel) rfl (fun F hF0 => ?_)
  unfold Nm_element
  refine rn_iload_n (pc := 0) 1 dk_Nm_element_0 rfl rfl ?_
  refine cl_Nm_69 (pc := 1) (As := [.int p1]) (st := []) rfl (ct_Nm_isShelf X p1 σ) (Nat.le_trans (Nat.le_of_ble_eq_true rfl) hF0) rfl rfl (Nat.le_of_ble_eq_true rfl) dk_Nm_element_1 (fun q1 => ?_)
  refine rn_if_eq (pc := 4) 20 dk_Nm_element_4 (by decide) (fun c2 => ?_) (fun c2 => ?_)
  · refine rn_lconst (pc := 20) (0 : Int64) dk_Nm_element_20 rfl ?_
    exact rn_lret rfl dk_Nm_element_21
  · refine rn_aload_n (pc := 7) 0 dk_Nm_element_7 rfl rfl rfl ?_
    refine gf_Nm_11 (pc := 8) rfl dk_Nm_element_8 ?_
    refine rn_iload_n (pc := 11) 1 dk_Nm_element_11 rfl rfl ?_
    refine rn_aaload (pc := 12) dk_Nm_element_12 (fun g3 => ?_)
    refine rn_iload_n (pc := 13) 2 dk_Nm_element_13 rfl rfl ?_
    refine cl_Nm_103 (pc := 14) (As := [.int p2]) (st := []) (nm_sf p1) (nm_sf_isH g3) rfl (ct_Sh_at X (nm_sf p1) (nm_sf_isH g3) p2 q1.2) (Nat.le_trans (Nat.le_of_ble_eq_true rfl) hF0) rfl rfl (Nat.le_of_ble_eq_true rfl) dk_Nm_element_14 (fun q4 => ?_)
    refine rn_goto (pc := 17) 21 dk_Nm_element_17 (by decide) ?_
    exact rn_lret rfl dk_Nm_element_21
theorem dk_Is_isMaker_0 : decode mi_Is_isMaker.2.1 0 = .ok (.iload_n 1, 1) := by decide +kernel
theorem dk_Is_isMaker_1 : decode mi_Is_isMaker.2.1 1 = .ok (.ifCond .lt 21, 3) := by decide +kernel
theorem dk_Is_isMaker_4 : decode mi_Is_isMaker.2.1 4 = .ok (.iload_n 1, 1) := by decide +kernel
theorem dk_Is_isMaker_5 : decode mi_Is_isMaker.2.1 5 = .ok (.aload_n 0, 1) := by decide +kernel
theorem dk_Is_isMaker_6 : decode mi_Is_isMaker.2.1 6 = .ok (.getfield 30, 3) := by decide +kernel
theorem dk_Is_isMaker_9 : decode mi_Is_isMaker.2.1 9 = .ok (.if_icmp .ge 13, 3) := by decide +kernel
theorem dk_Is_isMaker_12 : decode mi_Is_isMaker.2.1 12 = .ok (.iload_n 1, 1) := by decide +kernel
theorem dk_Is_isMaker_13 : decode mi_Is_isMaker.2.1 13 = .ok (.bipush 8, 2) := by decide +kernel
theorem dk_Is_isMaker_15 : decode mi_Is_isMaker.2.1 15 = .ok (.if_icmp .ge 7, 3) := by decide +kernel
theorem dk_Is_isMaker_18 : decode mi_Is_isMaker.2.1 18 = .ok (.iconst 1, 1) := by decide +kernel
theorem dk_Is_isMaker_19 : decode mi_Is_isMaker.2.1 19 = .ok (.goto 4, 3) := by decide +kernel
theorem dk_Is_isMaker_22 : decode mi_Is_isMaker.2.1 22 = .ok (.iconst 0, 1) := by decide +kernel
theorem dk_Is_isMaker_23 : decode mi_Is_isMaker.2.1 23 = .ok (.ireturn, 1) := by decide +kernel
def Is_isMaker (o : Nat) (p1 : Int32) (σ : nm_St) : Option (Int32 × nm_St) :=
  (if p1 < 0 then
    some ((0 : Int32), σ)
  else
    (if (σ.1 o 6) ≤ p1 then
      some ((0 : Int32), σ)
    else
      (if (8 : Int32) ≤ p1 then
        some ((0 : Int32), σ)
      else
        some ((1 : Int32), σ))))
set_option maxRecDepth 100000 in
set_option maxHeartbeats 4000000 in
theorem ct_Is_isMaker (X : nm_X) (o : Nat) (ho : nm_isl o = true) (p1 : Int32) (σ : nm_St) : Ct X mi_Is_isMaker 0 nm_wI [.ref o, .int p1] σ (Is_isMaker o p1 σ) := by
  refine Ct.of (by decide +kernel) rfl (fun F hF0 => ?_)
  unfold Is_isMaker
  refine rn_iload_n (pc := 0) 1 dk_Is_isMaker_0 rfl rfl ?_
  refine rn_if_lt (pc := 1) 22 dk_Is_isMaker_1 (by decide) (fun c1 => ?_) (fun c1 => ?_)
  · refine rn_iconst (pc := 22) (0 : Int32) dk_Is_isMaker_22 cn_i_0 ?_
    exact rn_zret (ty := .boolean) rfl rfl dk_Is_isMaker_23
  · refine rn_iload_n (pc := 4) 1 dk_Is_isMaker_4 rfl rfl ?_
    refine rn_aload_n (pc := 5) 0 dk_Is_isMaker_5 rfl rfl (nm_rok_isl ho) ?_
    refine gf_Is_30 (pc := 6) o ho rfl dk_Is_isMaker_6 ?_
    refine rn_icmp_ge (pc := 9) 22 dk_Is_isMaker_9 (by decide) (fun c2 => ?_) (fun c2 => ?_)
    · refine rn_iconst (pc := 22) (0 : Int32) dk_Is_isMaker_22 cn_i_0 ?_
      exact rn_zret (ty := .boolean) rfl rfl dk_Is_isMaker_23
    · refine rn_iload_n (pc := 12) 1 dk_Is_isMaker_12 rfl rfl ?_
      refine rn_bipush (pc := 13) (8 : Int32) dk_Is_isMaker_13 cn_b_8 ?_
      refine rn_icmp_ge (pc := 15) 22 dk_Is_isMaker_15 (by decide) (fun c3 => ?_) (fun c3 => ?_)
      · refine rn_iconst (pc := 22) (0 : Int32) dk_Is_isMaker_22 cn_i_0 ?_
        exact rn_zret (ty := .boolean) rfl rfl dk_Is_isMaker_23
      · refine rn_iconst (pc := 18) (1 : Int32) dk_Is_isMaker_18 cn_i_1 ?_
        refine rn_goto (pc := 19) 23 dk_Is_isMaker_19 (by decide) ?_
        exact rn_zret (ty := .boolean) rfl rfl dk_Is_isMaker_23
theorem dk_Sh_holdMaker_0 : decode mi_Sh_holdMaker.2.1 0 = .ok (.aload_n 0, 1) := by decide +kernel
theorem dk_Sh_holdMaker_1 : decode mi_Sh_holdMaker.2.1 1 = .ok (.iconst 2, 1) := by decide +kernel
theorem dk_Sh_holdMaker_2 : decode mi_Sh_holdMaker.2.1 2 = .ok (.putfield 15, 3) := by decide +kernel
theorem dk_Sh_holdMaker_5 : decode mi_Sh_holdMaker.2.1 5 = .ok (.aload_n 0, 1) := by decide +kernel
theorem dk_Sh_holdMaker_6 : decode mi_Sh_holdMaker.2.1 6 = .ok (.iconst 0, 1) := by decide +kernel
theorem dk_Sh_holdMaker_7 : decode mi_Sh_holdMaker.2.1 7 = .ok (.putfield 22, 3) := by decide +kernel
theorem dk_Sh_holdMaker_10 : decode mi_Sh_holdMaker.2.1 10 = .ok (.aload_n 0, 1) := by decide +kernel
theorem dk_Sh_holdMaker_11 : decode mi_Sh_holdMaker.2.1 11 = .ok (.iload_n 1, 1) := by decide +kernel
theorem dk_Sh_holdMaker_12 : decode mi_Sh_holdMaker.2.1 12 = .ok (.putfield 25, 3) := by decide +kernel
theorem dk_Sh_holdMaker_15 : decode mi_Sh_holdMaker.2.1 15 = .ok (.return_, 1) := by decide +kernel
def Sh_holdMaker (o : Nat) (p1 : Int32) (σ : nm_St) : Option (Unit × nm_St) :=
  (nm_let (nm_pI σ o 1 (2 : Int32)) fun s1 =>
  (nm_let (nm_pI s1 o 3 (0 : Int32)) fun s2 =>
  (nm_let (nm_pI s2 o 4 p1) fun s3 =>
  some ((), s3))))
set_option maxRecDepth 100000 in
set_option maxHeartbeats 4000000 in
theorem ct_Sh_holdMaker (X : nm_X) (o : Nat) (ho : nm_isH o = true) (p1 : Int32) (σ : nm_St) : Ct X mi_Sh_holdMaker 0 nm_wV [.ref o, .int p1] σ (Sh_holdMaker o p1 σ) := by
  refine Ct.of (by decide +kernel) rfl (fun F hF0 => ?_)
  unfold Sh_holdMaker
  refine rn_aload_n (pc := 0) 0 dk_Sh_holdMaker_0 rfl rfl (nm_rok_isH ho) ?_
  refine rn_iconst (pc := 1) (2 : Int32) dk_Sh_holdMaker_1 cn_i_2 ?_
  refine pf_Sh_15 (pc := 2) o ho rfl dk_Sh_holdMaker_2 ?_
  refine rn_lets (fun s1 => ?_)
  refine rn_aload_n (pc := 5) 0 dk_Sh_holdMaker_5 rfl rfl (nm_rok_isH ho) ?_
  refine rn_iconst (pc := 6) (0 : Int32) dk_Sh_holdMaker_6 cn_i_0 ?_
  refine pf_Sh_22 (pc := 7) o ho rfl dk_Sh_holdMaker_7 ?_
  refine rn_lets (fun s2 => ?_)
  refine rn_aload_n (pc := 10) 0 dk_Sh_holdMaker_10 rfl rfl (nm_rok_isH ho) ?_
  refine rn_iload_n (pc := 11) 1 dk_Sh_holdMaker_11 rfl rfl ?_
  refine pf_Sh_25 (pc := 12) o ho rfl dk_Sh_holdMaker_12 ?_
  refine rn_lets (fun s3 => ?_)
  exact rn_vret rfl dk_Sh_holdMaker_15
theorem dk_Sh_holdNothing_0 : decode mi_Sh_holdNothing.2.1 0 = .ok (.aload_n 0, 1) := by decide +kernel
theorem dk_Sh_holdNothing_1 : decode mi_Sh_holdNothing.2.1 1 = .ok (.iconst 0, 1) := by decide +kernel
theorem dk_Sh_holdNothing_2 : decode mi_Sh_holdNothing.2.1 2 = .ok (.putfield 15, 3) := by decide +kernel
theorem dk_Sh_holdNothing_5 : decode mi_Sh_holdNothing.2.1 5 = .ok (.aload_n 0, 1) := by decide +kernel
theorem dk_Sh_holdNothing_6 : decode mi_Sh_holdNothing.2.1 6 = .ok (.iconst 0, 1) := by decide +kernel
theorem dk_Sh_holdNothing_7 : decode mi_Sh_holdNothing.2.1 7 = .ok (.putfield 22, 3) := by decide +kernel
theorem dk_Sh_holdNothing_10 : decode mi_Sh_holdNothing.2.1 10 = .ok (.aload_n 0, 1) := by decide +kernel
theorem dk_Sh_holdNothing_11 : decode mi_Sh_holdNothing.2.1 11 = .ok (.iconst (-1), 1) := by decide +kernel
theorem dk_Sh_holdNothing_12 : decode mi_Sh_holdNothing.2.1 12 = .ok (.putfield 25, 3) := by decide +kernel
theorem dk_Sh_holdNothing_15 : decode mi_Sh_holdNothing.2.1 15 = .ok (.return_, 1) := by decide +kernel
def Sh_holdNothing (o : Nat) (σ : nm_St) : Option (Unit × nm_St) :=
  (nm_let (nm_pI σ o 1 (0 : Int32)) fun s1 =>
  (nm_let (nm_pI s1 o 3 (0 : Int32)) fun s2 =>
  (nm_let (nm_pI s2 o 4 (-1 : Int32)) fun s3 =>
  some ((), s3))))
set_option maxRecDepth 100000 in
set_option maxHeartbeats 4000000 in
theorem ct_Sh_holdNothing (X : nm_X) (o : Nat) (ho : nm_isH o = true) (σ : nm_St) : Ct X mi_Sh_holdNothing 0 nm_wV [.ref o] σ (Sh_holdNothing o σ) := by
  refine Ct.of (by decide +kernel) rfl (fun F hF0 => ?_)
  unfold Sh_holdNothing
  refine rn_aload_n (pc := 0) 0 dk_Sh_holdNothing_0 rfl rfl (nm_rok_isH ho) ?_
  refine rn_iconst (pc := 1) (0 : Int32) dk_Sh_holdNothing_1 cn_i_0 ?_
  refine pf_Sh_15 (pc := 2) o ho rfl dk_Sh_holdNothing_2 ?_
  refine rn_lets (fun s1 => ?_)
  refine rn_aload_n (pc := 5) 0 dk_Sh_holdNothing_5 rfl rfl (nm_rok_isH ho) ?_
  refine rn_iconst (pc := 6) (0 : Int32) dk_Sh_holdNothing_6 cn_i_0 ?_
  refine pf_Sh_22 (pc := 7) o ho rfl dk_Sh_holdNothing_7 ?_
  refine rn_lets (fun s2 => ?_)
  refine rn_aload_n (pc := 10) 0 dk_Sh_holdNothing_10 rfl rfl (nm_rok_isH ho) ?_
  refine rn_iconst (pc := 11) (-1 : Int32) dk_Sh_holdNothing_11 cn_i_m1 ?_
  refine pf_Sh_25 (pc := 12) o ho rfl dk_Sh_holdNothing_12 ?_
  refine rn_lets (fun s3 => ?_)
  exact rn_vret rfl dk_Sh_holdNothing_15
theorem dk_Nm_show_0 : decode mi_Nm_show.2.1 0 = .ok (.iload_n 1, 1) := by decide +kernel
theorem dk_Nm_show_1 : decode mi_Nm_show.2.1 1 = .ok (.invokestatic 69, 3) := by decide +kernel
theorem dk_Nm_show_4 : decode mi_Nm_show.2.1 4 = .ok (.ifCond .eq 19, 3) := by decide +kernel
theorem dk_Nm_show_7 : decode mi_Nm_show.2.1 7 = .ok (.iload_n 2, 1) := by decide +kernel
theorem dk_Nm_show_8 : decode mi_Nm_show.2.1 8 = .ok (.iconst (-1), 1) := by decide +kernel
theorem dk_Nm_show_9 : decode mi_Nm_show.2.1 9 = .ok (.if_icmp .eq 20, 3) := by decide +kernel
theorem dk_Nm_show_12 : decode mi_Nm_show.2.1 12 = .ok (.aload_n 0, 1) := by decide +kernel
theorem dk_Nm_show_13 : decode mi_Nm_show.2.1 13 = .ok (.getfield 18, 3) := by decide +kernel
theorem dk_Nm_show_16 : decode mi_Nm_show.2.1 16 = .ok (.iload_n 2, 1) := by decide +kernel
theorem dk_Nm_show_17 : decode mi_Nm_show.2.1 17 = .ok (.invokevirtual 107, 3) := by decide +kernel
theorem dk_Nm_show_20 : decode mi_Nm_show.2.1 20 = .ok (.ifCond .ne 9, 3) := by decide +kernel
theorem dk_Nm_show_23 : decode mi_Nm_show.2.1 23 = .ok (.aload_n 0, 1) := by decide +kernel
theorem dk_Nm_show_24 : decode mi_Nm_show.2.1 24 = .ok (.iconst (-1), 1) := by decide +kernel
theorem dk_Nm_show_25 : decode mi_Nm_show.2.1 25 = .ok (.invokevirtual 73, 3) := by decide +kernel
theorem dk_Nm_show_28 : decode mi_Nm_show.2.1 28 = .ok (.ireturn, 1) := by decide +kernel
theorem dk_Nm_show_29 : decode mi_Nm_show.2.1 29 = .ok (.iload_n 2, 1) := by decide +kernel
theorem dk_Nm_show_30 : decode mi_Nm_show.2.1 30 = .ok (.iconst (-1), 1) := by decide +kernel
theorem dk_Nm_show_31 : decode mi_Nm_show.2.1 31 = .ok (.if_icmp .ne 14, 3) := by decide +kernel
theorem dk_Nm_show_34 : decode mi_Nm_show.2.1 34 = .ok (.aload_n 0, 1) := by decide +kernel
theorem dk_Nm_show_35 : decode mi_Nm_show.2.1 35 = .ok (.getfield 11, 3) := by decide +kernel
theorem dk_Nm_show_38 : decode mi_Nm_show.2.1 38 = .ok (.iload_n 1, 1) := by decide +kernel
theorem dk_Nm_show_39 : decode mi_Nm_show.2.1 39 = .ok (.aaload, 1) := by decide +kernel
theorem dk_Nm_show_40 : decode mi_Nm_show.2.1 40 = .ok (.invokevirtual 110, 3) := by decide +kernel
theorem dk_Nm_show_43 : decode mi_Nm_show.2.1 43 = .ok (.iconst 0, 1) := by decide +kernel
theorem dk_Nm_show_44 : decode mi_Nm_show.2.1 44 = .ok (.ireturn, 1) := by decide +kernel
theorem dk_Nm_show_45 : decode mi_Nm_show.2.1 45 = .ok (.aload_n 0, 1) := by decide +kernel
theorem dk_Nm_show_46 : decode mi_Nm_show.2.1 46 = .ok (.getfield 11, 3) := by decide +kernel
theorem dk_Nm_show_49 : decode mi_Nm_show.2.1 49 = .ok (.iload_n 1, 1) := by decide +kernel
theorem dk_Nm_show_50 : decode mi_Nm_show.2.1 50 = .ok (.aaload, 1) := by decide +kernel
theorem dk_Nm_show_51 : decode mi_Nm_show.2.1 51 = .ok (.iload_n 2, 1) := by decide +kernel
theorem dk_Nm_show_52 : decode mi_Nm_show.2.1 52 = .ok (.invokevirtual 113, 3) := by decide +kernel
theorem dk_Nm_show_55 : decode mi_Nm_show.2.1 55 = .ok (.iconst 1, 1) := by decide +kernel
theorem dk_Nm_show_56 : decode mi_Nm_show.2.1 56 = .ok (.ireturn, 1) := by decide +kernel
def Nm_show_j29 (x1 : Int32) (x2 : Int32) (σ : nm_St) : Option (Int32 × nm_St) :=
  (if x2 = (-1 : Int32) then
    (nm_g (nm_in x1 8) (
    ((Sh_holdNothing (nm_sf x1) σ).bind fun q9 =>
    some ((0 : Int32), q9.2))))
  else
    (nm_g (nm_in x1 8) (
    ((Sh_holdMaker (nm_sf x1) x2 σ).bind fun q7 =>
    some ((1 : Int32), q7.2)))))
set_option maxRecDepth 100000 in
set_option maxHeartbeats 4000000 in
theorem r_Nm_show_j29 (X : nm_X) (F : nm_F) (hF0 : 1 ≤ nm_d F) (x1 : Int32) (x2 : Int32) (σ : nm_St) : Rn X mi_Nm_show F (nm_Qf X F nm_wI) [(0, .ref 0), (1, .int x1), (2, .int x2)] [] 29 σ (Nm_show_j29 x1 x2 σ) := by
  unfold Nm_show_j29
  refine rn_iload_n (pc := 29) 2 dk_Nm_show_29 rfl rfl ?_
  refine rn_iconst (pc := 30) (-1 : Int32) dk_Nm_show_30 cn_i_m1 ?_
  refine rn_icmp_ne (pc := 31) 45 dk_Nm_show_31 (by decide) (fun c5 => ?_) (fun c5 => ?_)
  · refine rn_aload_n (pc := 45) 0 dk_Nm_show_45 rfl rfl rfl ?_
    refine gf_Nm_11 (pc := 46) rfl dk_Nm_show_46 ?_
    refine rn_iload_n (pc := 49) 1 dk_Nm_show_49 rfl rfl ?_
    refine rn_aaload (pc := 50) dk_Nm_show_50 (fun g6 => ?_)
    refine rn_iload_n (pc := 51) 2 dk_Nm_show_51 rfl rfl ?_
    refine cl_Nm_113 (pc := 52) (As := [.int x2]) (st := []) (nm_sf x1) (nm_sf_isH g6) rfl (ct_Sh_holdMaker X (nm_sf x1) (nm_sf_isH g6) x2 σ) (Nat.le_trans (Nat.le_of_ble_eq_true rfl) hF0) rfl rfl (Nat.le_of_ble_eq_true rfl) dk_Nm_show_52 (fun q7 => ?_)
    refine rn_iconst (pc := 55) (1 : Int32) dk_Nm_show_55 cn_i_1 ?_
    exact rn_iret rfl dk_Nm_show_56
  · refine rn_aload_n (pc := 34) 0 dk_Nm_show_34 rfl rfl rfl ?_
    refine gf_Nm_11 (pc := 35) rfl dk_Nm_show_35 ?_
    refine rn_iload_n (pc := 38) 1 dk_Nm_show_38 rfl rfl ?_
    refine rn_aaload (pc := 39) dk_Nm_show_39 (fun g8 => ?_)
    refine cl_Nm_110 (pc := 40) (As := []) (st := []) (nm_sf x1) (nm_sf_isH g8) rfl (ct_Sh_holdNothing X (nm_sf x1) (nm_sf_isH g8) σ) (Nat.le_trans (Nat.le_of_ble_eq_true rfl) hF0) rfl rfl (Nat.le_of_ble_eq_true rfl) dk_Nm_show_40 (fun q9 => ?_)
    refine rn_iconst (pc := 43) (0 : Int32) dk_Nm_show_43 cn_i_0 ?_
    exact rn_iret rfl dk_Nm_show_44
def Nm_show (p1 : Int32) (p2 : Int32) (σ : nm_St) : Option (Int32 × nm_St) :=
  ((Nm_isShelf p1 σ).bind fun q1 =>
  (if q1.1 = 0 then
    ((Nm_refuse (-1 : Int32) q1.2).bind fun q3 =>
    some (q3.1, q3.2))
  else
    (if p2 = (-1 : Int32) then
      Nm_show_j29 p1 p2 q1.2
    else
      ((Is_isMaker 2 p2 q1.2).bind fun q10 =>
      (if q10.1 = 0 then
        ((Nm_refuse (-1 : Int32) q10.2).bind fun q12 =>
        some (q12.1, q12.2))
      else
        Nm_show_j29 p1 p2 q10.2)))))
set_option maxRecDepth 100000 in
set_option maxHeartbeats 4000000 in
theorem ct_Nm_show (X : nm_X) (p1 : Int32) (p2 : Int32) (σ : nm_St) : Ct X mi_Nm_show 1 nm_wI [.ref 0, .int p1, .int p2] σ (Nm_show p1 p2 σ) := by
  refine Ct.of (by decide +kernel) rfl (fun F hF0 => ?_)
  unfold Nm_show
  refine rn_iload_n (pc := 0) 1 dk_Nm_show_0 rfl rfl ?_
  refine cl_Nm_69 (pc := 1) (As := [.int p1]) (st := []) rfl (ct_Nm_isShelf X p1 σ) (Nat.le_trans (Nat.le_of_ble_eq_true rfl) hF0) rfl rfl (Nat.le_of_ble_eq_true rfl) dk_Nm_show_1 (fun q1 => ?_)
  refine rn_if_eq (pc := 4) 23 dk_Nm_show_4 (by decide) (fun c2 => ?_) (fun c2 => ?_)
  · refine rn_aload_n (pc := 23) 0 dk_Nm_show_23 rfl rfl rfl ?_
    refine rn_iconst (pc := 24) (-1 : Int32) dk_Nm_show_24 cn_i_m1 ?_
    refine cl_Nm_73 (pc := 25) (As := [.int (-1 : Int32)]) (st := []) rfl (ct_Nm_refuse X (-1 : Int32) q1.2) (Nat.le_trans (Nat.le_of_ble_eq_true rfl) hF0) rfl rfl (Nat.le_of_ble_eq_true rfl) dk_Nm_show_25 (fun q3 => ?_)
    exact rn_iret rfl dk_Nm_show_28
  · refine rn_iload_n (pc := 7) 2 dk_Nm_show_7 rfl rfl ?_
    refine rn_iconst (pc := 8) (-1 : Int32) dk_Nm_show_8 cn_i_m1 ?_
    refine rn_icmp_eq (pc := 9) 29 dk_Nm_show_9 (by decide) (fun c4 => ?_) (fun c4 => ?_)
    · exact rn_sub (by rfl) (r_Nm_show_j29 X F hF0 p1 p2 q1.2)
    · refine rn_aload_n (pc := 12) 0 dk_Nm_show_12 rfl rfl rfl ?_
      refine gf_Nm_18 (pc := 13) rfl dk_Nm_show_13 ?_
      refine rn_iload_n (pc := 16) 2 dk_Nm_show_16 rfl rfl ?_
      refine cl_Nm_107 (pc := 17) (As := [.int p2]) (st := []) 2 rfl rfl (ct_Is_isMaker X 2 rfl p2 q1.2) (Nat.le_trans (Nat.le_of_ble_eq_true rfl) hF0) rfl rfl (Nat.le_of_ble_eq_true rfl) dk_Nm_show_17 (fun q10 => ?_)
      refine rn_if_ne (pc := 20) 29 dk_Nm_show_20 (by decide) (fun c11 => ?_) (fun c11 => ?_)
      · exact rn_sub (by rfl) (r_Nm_show_j29 X F hF0 p1 p2 q10.2)
      · refine rn_aload_n (pc := 23) 0 dk_Nm_show_23 rfl rfl rfl ?_
        refine rn_iconst (pc := 24) (-1 : Int32) dk_Nm_show_24 cn_i_m1 ?_
        refine cl_Nm_73 (pc := 25) (As := [.int (-1 : Int32)]) (st := []) rfl (ct_Nm_refuse X (-1 : Int32) q10.2) (Nat.le_trans (Nat.le_of_ble_eq_true rfl) hF0) rfl rfl (Nat.le_of_ble_eq_true rfl) dk_Nm_show_25 (fun q12 => ?_)
        exact rn_iret rfl dk_Nm_show_28
theorem dk_Sh_told_0 : decode mi_Sh_told.2.1 0 = .ok (.aload_n 0, 1) := by decide +kernel
theorem dk_Sh_told_1 : decode mi_Sh_told.2.1 1 = .ok (.getfield 15, 3) := by decide +kernel
theorem dk_Sh_told_4 : decode mi_Sh_told.2.1 4 = .ok (.iconst 1, 1) := by decide +kernel
theorem dk_Sh_told_5 : decode mi_Sh_told.2.1 5 = .ok (.if_icmp .ne 11, 3) := by decide +kernel
theorem dk_Sh_told_8 : decode mi_Sh_told.2.1 8 = .ok (.bipush 100, 2) := by decide +kernel
theorem dk_Sh_told_10 : decode mi_Sh_told.2.1 10 = .ok (.aload_n 0, 1) := by decide +kernel
theorem dk_Sh_told_11 : decode mi_Sh_told.2.1 11 = .ok (.getfield 19, 3) := by decide +kernel
theorem dk_Sh_told_14 : decode mi_Sh_told.2.1 14 = .ok (.iadd, 1) := by decide +kernel
theorem dk_Sh_told_15 : decode mi_Sh_told.2.1 15 = .ok (.ireturn, 1) := by decide +kernel
theorem dk_Sh_told_16 : decode mi_Sh_told.2.1 16 = .ok (.aload_n 0, 1) := by decide +kernel
theorem dk_Sh_told_17 : decode mi_Sh_told.2.1 17 = .ok (.getfield 25, 3) := by decide +kernel
theorem dk_Sh_told_20 : decode mi_Sh_told.2.1 20 = .ok (.ireturn, 1) := by decide +kernel
def Sh_told (o : Nat) (σ : nm_St) : Option (Int32 × nm_St) :=
  (if (σ.1 o 1) = (1 : Int32) then
    some (((100 : Int32) + (σ.1 o 2)), σ)
  else
    some ((σ.1 o 4), σ))
set_option maxRecDepth 100000 in
set_option maxHeartbeats 4000000 in
theorem ct_Sh_told (X : nm_X) (o : Nat) (ho : nm_isH o = true) (σ : nm_St) : Ct X mi_Sh_told 0 nm_wI [.ref o] σ (Sh_told o σ) := by
  refine Ct.of (by decide +kernel) rfl (fun F hF0 => ?_)
  unfold Sh_told
  refine rn_aload_n (pc := 0) 0 dk_Sh_told_0 rfl rfl (nm_rok_isH ho) ?_
  refine gf_Sh_15 (pc := 1) o ho rfl dk_Sh_told_1 ?_
  refine rn_iconst (pc := 4) (1 : Int32) dk_Sh_told_4 cn_i_1 ?_
  refine rn_icmp_ne (pc := 5) 16 dk_Sh_told_5 (by decide) (fun c1 => ?_) (fun c1 => ?_)
  · refine rn_aload_n (pc := 16) 0 dk_Sh_told_16 rfl rfl (nm_rok_isH ho) ?_
    refine gf_Sh_25 (pc := 17) o ho rfl dk_Sh_told_17 ?_
    exact rn_iret rfl dk_Sh_told_20
  · refine rn_bipush (pc := 8) (100 : Int32) dk_Sh_told_8 cn_b_100 ?_
    refine rn_aload_n (pc := 10) 0 dk_Sh_told_10 rfl rfl (nm_rok_isH ho) ?_
    refine gf_Sh_19 (pc := 11) o ho rfl dk_Sh_told_11 ?_
    refine rn_iadd (pc := 14) dk_Sh_told_14 ?_
    exact rn_iret rfl dk_Sh_told_15
theorem dk_Nm_holds_0 : decode mi_Nm_holds.2.1 0 = .ok (.iload_n 1, 1) := by decide +kernel
theorem dk_Nm_holds_1 : decode mi_Nm_holds.2.1 1 = .ok (.invokestatic 69, 3) := by decide +kernel
theorem dk_Nm_holds_4 : decode mi_Nm_holds.2.1 4 = .ok (.ifCond .ne 5, 3) := by decide +kernel
theorem dk_Nm_holds_7 : decode mi_Nm_holds.2.1 7 = .ok (.iconst (-1), 1) := by decide +kernel
theorem dk_Nm_holds_8 : decode mi_Nm_holds.2.1 8 = .ok (.ireturn, 1) := by decide +kernel
theorem dk_Nm_holds_9 : decode mi_Nm_holds.2.1 9 = .ok (.aload_n 0, 1) := by decide +kernel
theorem dk_Nm_holds_10 : decode mi_Nm_holds.2.1 10 = .ok (.getfield 11, 3) := by decide +kernel
theorem dk_Nm_holds_13 : decode mi_Nm_holds.2.1 13 = .ok (.iload_n 1, 1) := by decide +kernel
theorem dk_Nm_holds_14 : decode mi_Nm_holds.2.1 14 = .ok (.aaload, 1) := by decide +kernel
theorem dk_Nm_holds_15 : decode mi_Nm_holds.2.1 15 = .ok (.invokevirtual 117, 3) := by decide +kernel
theorem dk_Nm_holds_18 : decode mi_Nm_holds.2.1 18 = .ok (.ireturn, 1) := by decide +kernel
def Nm_holds (p1 : Int32) (σ : nm_St) : Option (Int32 × nm_St) :=
  ((Nm_isShelf p1 σ).bind fun q1 =>
  (if q1.1 = 0 then
    some ((-1 : Int32), q1.2)
  else
    (nm_g (nm_in p1 8) (
    ((Sh_told (nm_sf p1) q1.2).bind fun q4 =>
    some (q4.1, q4.2))))))
set_option maxRecDepth 100000 in
set_option maxHeartbeats 4000000 in
theorem ct_Nm_holds (X : nm_X) (p1 : Int32) (σ : nm_St) : Ct X mi_Nm_holds 1 nm_wI [.ref 0, .int p1] σ (Nm_holds p1 σ) := by
  refine Ct.of (by decide +kernel) rfl (fun F hF0 => ?_)
  unfold Nm_holds
  refine rn_iload_n (pc := 0) 1 dk_Nm_holds_0 rfl rfl ?_
  refine cl_Nm_69 (pc := 1) (As := [.int p1]) (st := []) rfl (ct_Nm_isShelf X p1 σ) (Nat.le_trans (Nat.le_of_ble_eq_true rfl) hF0) rfl rfl (Nat.le_of_ble_eq_true rfl) dk_Nm_holds_1 (fun q1 => ?_)
  refine rn_if_ne (pc := 4) 9 dk_Nm_holds_4 (by decide) (fun c2 => ?_) (fun c2 => ?_)
  · refine rn_aload_n (pc := 9) 0 dk_Nm_holds_9 rfl rfl rfl ?_
    refine gf_Nm_11 (pc := 10) rfl dk_Nm_holds_10 ?_
    refine rn_iload_n (pc := 13) 1 dk_Nm_holds_13 rfl rfl ?_
    refine rn_aaload (pc := 14) dk_Nm_holds_14 (fun g3 => ?_)
    refine cl_Nm_117 (pc := 15) (As := []) (st := []) (nm_sf p1) (nm_sf_isH g3) rfl (ct_Sh_told X (nm_sf p1) (nm_sf_isH g3) q1.2) (Nat.le_trans (Nat.le_of_ble_eq_true rfl) hF0) rfl rfl (Nat.le_of_ble_eq_true rfl) dk_Nm_holds_15 (fun q4 => ?_)
    exact rn_iret rfl dk_Nm_holds_18
  · refine rn_iconst (pc := 7) (-1 : Int32) dk_Nm_holds_7 cn_i_m1 ?_
    exact rn_iret rfl dk_Nm_holds_8
theorem dk_Nm_isKind_0 : decode mi_Nm_isKind.2.1 0 = .ok (.iload_n 0, 1) := by decide +kernel
theorem dk_Nm_isKind_1 : decode mi_Nm_isKind.2.1 1 = .ok (.ifCond .lt 13, 3) := by decide +kernel
theorem dk_Nm_isKind_4 : decode mi_Nm_isKind.2.1 4 = .ok (.iload_n 0, 1) := by decide +kernel
theorem dk_Nm_isKind_5 : decode mi_Nm_isKind.2.1 5 = .ok (.bipush 7, 2) := by decide +kernel
theorem dk_Nm_isKind_7 : decode mi_Nm_isKind.2.1 7 = .ok (.if_icmp .ge 7, 3) := by decide +kernel
theorem dk_Nm_isKind_10 : decode mi_Nm_isKind.2.1 10 = .ok (.iconst 1, 1) := by decide +kernel
theorem dk_Nm_isKind_11 : decode mi_Nm_isKind.2.1 11 = .ok (.goto 4, 3) := by decide +kernel
theorem dk_Nm_isKind_14 : decode mi_Nm_isKind.2.1 14 = .ok (.iconst 0, 1) := by decide +kernel
theorem dk_Nm_isKind_15 : decode mi_Nm_isKind.2.1 15 = .ok (.ireturn, 1) := by decide +kernel
def Nm_isKind (p0 : Int32) (σ : nm_St) : Option (Int32 × nm_St) :=
  (if p0 < 0 then
    some ((0 : Int32), σ)
  else
    (if (7 : Int32) ≤ p0 then
      some ((0 : Int32), σ)
    else
      some ((1 : Int32), σ)))
set_option maxRecDepth 100000 in
set_option maxHeartbeats 4000000 in
theorem ct_Nm_isKind (X : nm_X) (p0 : Int32) (σ : nm_St) : Ct X mi_Nm_isKind 0 nm_wI [.int p0] σ (Nm_isKind p0 σ) := by
  refine Ct.of (by decide +kernel) rfl (fun F hF0 => ?_)
  unfold Nm_isKind
  refine rn_iload_n (pc := 0) 0 dk_Nm_isKind_0 rfl rfl ?_
  refine rn_if_lt (pc := 1) 14 dk_Nm_isKind_1 (by decide) (fun c1 => ?_) (fun c1 => ?_)
  · refine rn_iconst (pc := 14) (0 : Int32) dk_Nm_isKind_14 cn_i_0 ?_
    exact rn_zret (ty := .boolean) rfl rfl dk_Nm_isKind_15
  · refine rn_iload_n (pc := 4) 0 dk_Nm_isKind_4 rfl rfl ?_
    refine rn_bipush (pc := 5) (7 : Int32) dk_Nm_isKind_5 cn_b_7 ?_
    refine rn_icmp_ge (pc := 7) 14 dk_Nm_isKind_7 (by decide) (fun c2 => ?_) (fun c2 => ?_)
    · refine rn_iconst (pc := 14) (0 : Int32) dk_Nm_isKind_14 cn_i_0 ?_
      exact rn_zret (ty := .boolean) rfl rfl dk_Nm_isKind_15
    · refine rn_iconst (pc := 10) (1 : Int32) dk_Nm_isKind_10 cn_i_1 ?_
      refine rn_goto (pc := 11) 15 dk_Nm_isKind_11 (by decide) ?_
      exact rn_zret (ty := .boolean) rfl rfl dk_Nm_isKind_15
theorem dk_Nm_kindAbove_0 : decode mi_Nm_kindAbove.2.1 0 = .ok (.iload_n 0, 1) := by decide +kernel
theorem dk_Nm_kindAbove_1 : decode mi_Nm_kindAbove.2.1 1 = .ok (.invokestatic 121, 3) := by decide +kernel
theorem dk_Nm_kindAbove_4 : decode mi_Nm_kindAbove.2.1 4 = .ok (.ifCond .eq 11, 3) := by decide +kernel
theorem dk_Nm_kindAbove_7 : decode mi_Nm_kindAbove.2.1 7 = .ok (.getstatic 348, 3) := by decide +kernel
theorem dk_Nm_kindAbove_10 : decode mi_Nm_kindAbove.2.1 10 = .ok (.iload_n 0, 1) := by decide +kernel
theorem dk_Nm_kindAbove_11 : decode mi_Nm_kindAbove.2.1 11 = .ok (.iaload, 1) := by decide +kernel
theorem dk_Nm_kindAbove_12 : decode mi_Nm_kindAbove.2.1 12 = .ok (.goto 4, 3) := by decide +kernel
theorem dk_Nm_kindAbove_15 : decode mi_Nm_kindAbove.2.1 15 = .ok (.iconst (-1), 1) := by decide +kernel
theorem dk_Nm_kindAbove_16 : decode mi_Nm_kindAbove.2.1 16 = .ok (.ireturn, 1) := by decide +kernel
def Nm_kindAbove (p0 : Int32) (σ : nm_St) : Option (Int32 × nm_St) :=
  ((Nm_isKind p0 σ).bind fun q1 =>
  (if q1.1 = 0 then
    some ((-1 : Int32), q1.2)
  else
    (nm_g (nm_in p0 (nm_tabN 0)) (
    some (((nm_tab 0).getD p0.toNatClampNeg 0), q1.2)))))
set_option maxRecDepth 100000 in
set_option maxHeartbeats 4000000 in
theorem ct_Nm_kindAbove (X : nm_X) (p0 : Int32) (σ : nm_St) : Ct X mi_Nm_kindAbove 1 nm_wI [.int p0] σ (Nm_kindAbove p0 σ) := by
  refine Ct.of (by decide +kernel) rfl (fun F hF0 => ?_)
  unfold Nm_kindAbove
  refine rn_iload_n (pc := 0) 0 dk_Nm_kindAbove_0 rfl rfl ?_
  refine cl_Nm_121 (pc := 1) (As := [.int p0]) (st := []) rfl (ct_Nm_isKind X p0 σ) (Nat.le_trans (Nat.le_of_ble_eq_true rfl) hF0) rfl rfl (Nat.le_of_ble_eq_true rfl) dk_Nm_kindAbove_1 (fun q1 => ?_)
  refine rn_if_eq (pc := 4) 15 dk_Nm_kindAbove_4 (by decide) (fun c2 => ?_) (fun c2 => ?_)
  · refine rn_iconst (pc := 15) (-1 : Int32) dk_Nm_kindAbove_15 cn_i_m1 ?_
    exact rn_iret rfl dk_Nm_kindAbove_16
  · refine rn_getT (pc := 7) 0 (by decide) wd_445 dk_Nm_kindAbove_7 ?_
    refine rn_iload_n (pc := 10) 0 dk_Nm_kindAbove_10 rfl rfl ?_
    refine rn_ialoadT (pc := 11) 0 (by decide) dk_Nm_kindAbove_11 (fun g3 => ?_)
    refine rn_goto (pc := 12) 16 dk_Nm_kindAbove_12 (by decide) ?_
    exact rn_iret rfl dk_Nm_kindAbove_16
theorem dk_Nm_isUnder_0 : decode mi_Nm_isUnder.2.1 0 = .ok (.iload_n 0, 1) := by decide +kernel
theorem dk_Nm_isUnder_1 : decode mi_Nm_isUnder.2.1 1 = .ok (.istore_n 2, 1) := by decide +kernel
theorem dk_Nm_isUnder_2 : decode mi_Nm_isUnder.2.1 2 = .ok (.iconst 0, 1) := by decide +kernel
theorem dk_Nm_isUnder_3 : decode mi_Nm_isUnder.2.1 3 = .ok (.istore_n 3, 1) := by decide +kernel
theorem dk_Nm_isUnder_4 : decode mi_Nm_isUnder.2.1 4 = .ok (.iload_n 3, 1) := by decide +kernel
theorem dk_Nm_isUnder_5 : decode mi_Nm_isUnder.2.1 5 = .ok (.bipush 7, 2) := by decide +kernel
theorem dk_Nm_isUnder_7 : decode mi_Nm_isUnder.2.1 7 = .ok (.if_icmp .ge 26, 3) := by decide +kernel
theorem dk_Nm_isUnder_10 : decode mi_Nm_isUnder.2.1 10 = .ok (.iload_n 2, 1) := by decide +kernel
theorem dk_Nm_isUnder_11 : decode mi_Nm_isUnder.2.1 11 = .ok (.iconst (-1), 1) := by decide +kernel
theorem dk_Nm_isUnder_12 : decode mi_Nm_isUnder.2.1 12 = .ok (.if_icmp .eq 21, 3) := by decide +kernel
theorem dk_Nm_isUnder_15 : decode mi_Nm_isUnder.2.1 15 = .ok (.iload_n 2, 1) := by decide +kernel
theorem dk_Nm_isUnder_16 : decode mi_Nm_isUnder.2.1 16 = .ok (.iload_n 1, 1) := by decide +kernel
theorem dk_Nm_isUnder_17 : decode mi_Nm_isUnder.2.1 17 = .ok (.if_icmp .ne 5, 3) := by decide +kernel
theorem dk_Nm_isUnder_20 : decode mi_Nm_isUnder.2.1 20 = .ok (.iconst 1, 1) := by decide +kernel
theorem dk_Nm_isUnder_21 : decode mi_Nm_isUnder.2.1 21 = .ok (.ireturn, 1) := by decide +kernel
theorem dk_Nm_isUnder_22 : decode mi_Nm_isUnder.2.1 22 = .ok (.iload_n 2, 1) := by decide +kernel
theorem dk_Nm_isUnder_23 : decode mi_Nm_isUnder.2.1 23 = .ok (.invokestatic 351, 3) := by decide +kernel
theorem dk_Nm_isUnder_26 : decode mi_Nm_isUnder.2.1 26 = .ok (.istore_n 2, 1) := by decide +kernel
theorem dk_Nm_isUnder_27 : decode mi_Nm_isUnder.2.1 27 = .ok (.iinc 3 1, 3) := by decide +kernel
theorem dk_Nm_isUnder_30 : decode mi_Nm_isUnder.2.1 30 = .ok (.goto (-26), 3) := by decide +kernel
theorem dk_Nm_isUnder_33 : decode mi_Nm_isUnder.2.1 33 = .ok (.iconst 0, 1) := by decide +kernel
theorem dk_Nm_isUnder_34 : decode mi_Nm_isUnder.2.1 34 = .ok (.ireturn, 1) := by decide +kernel
def Nm_isUnder_l4 (k_33 : nm_St → Option (Int32 × nm_St)) : Nat → Int32 → Int32 → Int32 → nm_St → Option (Int32 × nm_St)
  | 0, _, _, _, _ => none
  | n + 1, x1, x2, x3, σ =>
    (if (7 : Int32) ≤ x3 then
      k_33 σ
    else
      (if x2 = (-1 : Int32) then
        k_33 σ
      else
        (if x2 = x1 then
          some ((1 : Int32), σ)
        else
          ((Nm_kindAbove x2 σ).bind fun q4 =>
          (Nm_isUnder_l4 k_33 n) x1 q4.1 (x3 + (1 : Int32)) q4.2))))
set_option maxRecDepth 100000 in
set_option maxHeartbeats 4000000 in
theorem r_Nm_isUnder_l4 (X : nm_X) (F : nm_F) (hF0 : 2 ≤ nm_d F) (k_33 : nm_St → Option (Int32 × nm_St)) (hk_33 : ∀ (σ : nm_St), Rn X mi_Nm_isUnder F (nm_Qf X F nm_wI) [] [] 33 σ (k_33 σ)) : ∀ (n : Nat) (x1 : Int32) (x2 : Int32) (x3 : Int32) (σ : nm_St), Rn X mi_Nm_isUnder F (nm_Qf X F nm_wI) [(1, .int x1), (2, .int x2), (3, .int x3)] [] 4 σ (Nm_isUnder_l4 k_33 n x1 x2 x3 σ) := by
  intro n
  induction n with
  | zero =>
    intro x1 x2 x3 σ
    exact rn_none
  | succ n ih =>
    intro x1 x2 x3 σ
    unfold Nm_isUnder_l4
    refine rn_iload_n (pc := 4) 3 dk_Nm_isUnder_4 rfl rfl ?_
    refine rn_bipush (pc := 5) (7 : Int32) dk_Nm_isUnder_5 cn_b_7 ?_
    refine rn_icmp_ge (pc := 7) 33 dk_Nm_isUnder_7 (by decide) (fun c1 => ?_) (fun c1 => ?_)
    · exact rn_sub (by rfl) (hk_33 σ)
    · refine rn_iload_n (pc := 10) 2 dk_Nm_isUnder_10 rfl rfl ?_
      refine rn_iconst (pc := 11) (-1 : Int32) dk_Nm_isUnder_11 cn_i_m1 ?_
      refine rn_icmp_eq (pc := 12) 33 dk_Nm_isUnder_12 (by decide) (fun c2 => ?_) (fun c2 => ?_)
      · exact rn_sub (by rfl) (hk_33 σ)
      · refine rn_iload_n (pc := 15) 2 dk_Nm_isUnder_15 rfl rfl ?_
        refine rn_iload_n (pc := 16) 1 dk_Nm_isUnder_16 rfl rfl ?_
        refine rn_icmp_ne (pc := 17) 22 dk_Nm_isUnder_17 (by decide) (fun c3 => ?_) (fun c3 => ?_)
        · refine rn_iload_n (pc := 22) 2 dk_Nm_isUnder_22 rfl rfl ?_
          refine cl_Nm_351 (pc := 23) (As := [.int x2]) (st := []) rfl (ct_Nm_kindAbove X x2 σ) (Nat.le_trans (Nat.le_of_ble_eq_true rfl) hF0) rfl rfl (Nat.le_of_ble_eq_true rfl) dk_Nm_isUnder_23 (fun q4 => ?_)
          refine rn_istore_n (pc := 26) 2 dk_Nm_isUnder_26 rfl rfl rfl ?_
          refine rn_iinc (pc := 27) (1 : Int32) dk_Nm_isUnder_27 cn_i_1 rfl rfl rfl ?_
          refine rn_goto (pc := 30) 4 dk_Nm_isUnder_30 (by decide) ?_
          exact rn_sub (by rfl) (ih x1 q4.1 (x3 + (1 : Int32)) q4.2)
        · refine rn_iconst (pc := 20) (1 : Int32) dk_Nm_isUnder_20 cn_i_1 ?_
          exact rn_zret (ty := .boolean) rfl rfl dk_Nm_isUnder_21
def Nm_isUnder (p0 : Int32) (p1 : Int32) (σ : nm_St) : Option (Int32 × nm_St) :=
  Nm_isUnder_l4 (fun (s5 : nm_St) =>
    some ((0 : Int32), s5)) 400 p1 p0 (0 : Int32) σ
set_option maxRecDepth 100000 in
set_option maxHeartbeats 4000000 in
theorem ct_Nm_isUnder (X : nm_X) (p0 : Int32) (p1 : Int32) (σ : nm_St) : Ct X mi_Nm_isUnder 2 nm_wI [.int p0, .int p1] σ (Nm_isUnder p0 p1 σ) := by
  refine Ct.of (by decide +kernel) rfl (fun F hF0 => ?_)
  unfold Nm_isUnder
  refine rn_iload_n (pc := 0) 0 dk_Nm_isUnder_0 rfl rfl ?_
  refine rn_istore_n (pc := 1) 2 dk_Nm_isUnder_1 rfl rfl rfl ?_
  refine rn_iconst (pc := 2) (0 : Int32) dk_Nm_isUnder_2 cn_i_0 ?_
  refine rn_istore_n (pc := 3) 3 dk_Nm_isUnder_3 rfl rfl rfl ?_
  refine rn_sub (by rfl) (r_Nm_isUnder_l4 X F hF0 _ (fun s5 => ?_) 400 p1 p0 (0 : Int32) σ)
  refine rn_iconst (pc := 33) (0 : Int32) dk_Nm_isUnder_33 cn_i_0 ?_
  exact rn_zret (ty := .boolean) rfl rfl dk_Nm_isUnder_34
theorem dk_Is_kindOf_0 : decode mi_Is_kindOf.2.1 0 = .ok (.aload_n 0, 1) := by decide +kernel
theorem dk_Is_kindOf_1 : decode mi_Is_kindOf.2.1 1 = .ok (.iload_n 1, 1) := by decide +kernel
theorem dk_Is_kindOf_2 : decode mi_Is_kindOf.2.1 2 = .ok (.invokevirtual 59, 3) := by decide +kernel
theorem dk_Is_kindOf_5 : decode mi_Is_kindOf.2.1 5 = .ok (.ifCond .eq 12, 3) := by decide +kernel
theorem dk_Is_kindOf_8 : decode mi_Is_kindOf.2.1 8 = .ok (.aload_n 0, 1) := by decide +kernel
theorem dk_Is_kindOf_9 : decode mi_Is_kindOf.2.1 9 = .ok (.getfield 9, 3) := by decide +kernel
theorem dk_Is_kindOf_12 : decode mi_Is_kindOf.2.1 12 = .ok (.iload_n 1, 1) := by decide +kernel
theorem dk_Is_kindOf_13 : decode mi_Is_kindOf.2.1 13 = .ok (.iaload, 1) := by decide +kernel
theorem dk_Is_kindOf_14 : decode mi_Is_kindOf.2.1 14 = .ok (.goto 4, 3) := by decide +kernel
theorem dk_Is_kindOf_17 : decode mi_Is_kindOf.2.1 17 = .ok (.iconst (-1), 1) := by decide +kernel
theorem dk_Is_kindOf_18 : decode mi_Is_kindOf.2.1 18 = .ok (.ireturn, 1) := by decide +kernel
def Is_kindOf (o : Nat) (p1 : Int32) (σ : nm_St) : Option (Int32 × nm_St) :=
  ((Is_isMaker o p1 σ).bind fun q1 =>
  (if q1.1 = 0 then
    some ((-1 : Int32), q1.2)
  else
    (nm_g (nm_in p1 8) (
    some ((q1.2.1 (o + 1) p1.toNatClampNeg), q1.2)))))
set_option maxRecDepth 100000 in
set_option maxHeartbeats 4000000 in
theorem ct_Is_kindOf (X : nm_X) (o : Nat) (ho : nm_isl o = true) (p1 : Int32) (σ : nm_St) : Ct X mi_Is_kindOf 1 nm_wI [.ref o, .int p1] σ (Is_kindOf o p1 σ) := by
  refine Ct.of (by decide +kernel) rfl (fun F hF0 => ?_)
  unfold Is_kindOf
  refine rn_aload_n (pc := 0) 0 dk_Is_kindOf_0 rfl rfl (nm_rok_isl ho) ?_
  refine rn_iload_n (pc := 1) 1 dk_Is_kindOf_1 rfl rfl ?_
  refine cl_Is_59 (pc := 2) (As := [.int p1]) (st := []) o ho rfl (ct_Is_isMaker X o ho p1 σ) (Nat.le_trans (Nat.le_of_ble_eq_true rfl) hF0) rfl rfl (Nat.le_of_ble_eq_true rfl) dk_Is_kindOf_2 (fun q1 => ?_)
  refine rn_if_eq (pc := 5) 17 dk_Is_kindOf_5 (by decide) (fun c2 => ?_) (fun c2 => ?_)
  · refine rn_iconst (pc := 17) (-1 : Int32) dk_Is_kindOf_17 cn_i_m1 ?_
    exact rn_iret rfl dk_Is_kindOf_18
  · refine rn_aload_n (pc := 8) 0 dk_Is_kindOf_8 rfl rfl (nm_rok_isl ho) ?_
    refine gf_Is_9 (pc := 9) o ho rfl dk_Is_kindOf_9 ?_
    refine rn_iload_n (pc := 12) 1 dk_Is_kindOf_12 rfl rfl ?_
    refine rn_iaload (pc := 13) (nm_i1 ho) dk_Is_kindOf_13 (fun g3 => ?_)
    refine rn_goto (pc := 14) 18 dk_Is_kindOf_14 (by decide) ?_
    exact rn_iret rfl dk_Is_kindOf_18
theorem dk_Is_isAt_0 : decode mi_Is_isAt.2.1 0 = .ok (.iload_n 1, 1) := by decide +kernel
theorem dk_Is_isAt_1 : decode mi_Is_isAt.2.1 1 = .ok (.ifCond .lt 31, 3) := by decide +kernel
theorem dk_Is_isAt_4 : decode mi_Is_isAt.2.1 4 = .ok (.iload_n 1, 1) := by decide +kernel
theorem dk_Is_isAt_5 : decode mi_Is_isAt.2.1 5 = .ok (.aload_n 0, 1) := by decide +kernel
theorem dk_Is_isAt_6 : decode mi_Is_isAt.2.1 6 = .ok (.getfield 30, 3) := by decide +kernel
theorem dk_Is_isAt_9 : decode mi_Is_isAt.2.1 9 = .ok (.if_icmp .ge 23, 3) := by decide +kernel
theorem dk_Is_isAt_12 : decode mi_Is_isAt.2.1 12 = .ok (.iload_n 1, 1) := by decide +kernel
theorem dk_Is_isAt_13 : decode mi_Is_isAt.2.1 13 = .ok (.bipush 8, 2) := by decide +kernel
theorem dk_Is_isAt_15 : decode mi_Is_isAt.2.1 15 = .ok (.if_icmp .ge 17, 3) := by decide +kernel
theorem dk_Is_isAt_18 : decode mi_Is_isAt.2.1 18 = .ok (.aload_n 0, 1) := by decide +kernel
theorem dk_Is_isAt_19 : decode mi_Is_isAt.2.1 19 = .ok (.getfield 27, 3) := by decide +kernel
theorem dk_Is_isAt_22 : decode mi_Is_isAt.2.1 22 = .ok (.iload_n 1, 1) := by decide +kernel
theorem dk_Is_isAt_23 : decode mi_Is_isAt.2.1 23 = .ok (.iaload, 1) := by decide +kernel
theorem dk_Is_isAt_24 : decode mi_Is_isAt.2.1 24 = .ok (.iload_n 2, 1) := by decide +kernel
theorem dk_Is_isAt_25 : decode mi_Is_isAt.2.1 25 = .ok (.if_icmp .ne 7, 3) := by decide +kernel
theorem dk_Is_isAt_28 : decode mi_Is_isAt.2.1 28 = .ok (.iconst 1, 1) := by decide +kernel
theorem dk_Is_isAt_29 : decode mi_Is_isAt.2.1 29 = .ok (.goto 4, 3) := by decide +kernel
theorem dk_Is_isAt_32 : decode mi_Is_isAt.2.1 32 = .ok (.iconst 0, 1) := by decide +kernel
theorem dk_Is_isAt_33 : decode mi_Is_isAt.2.1 33 = .ok (.ireturn, 1) := by decide +kernel
def Is_isAt (o : Nat) (p1 : Int32) (p2 : Int32) (σ : nm_St) : Option (Int32 × nm_St) :=
  (if p1 < 0 then
    some ((0 : Int32), σ)
  else
    (if (σ.1 o 6) ≤ p1 then
      some ((0 : Int32), σ)
    else
      (if (8 : Int32) ≤ p1 then
        some ((0 : Int32), σ)
      else
        (nm_g (nm_in p1 8) (
        (if (σ.1 (o + 6) p1.toNatClampNeg) = p2 then
          some ((1 : Int32), σ)
        else
          some ((0 : Int32), σ)))))))
set_option maxRecDepth 100000 in
set_option maxHeartbeats 4000000 in
theorem ct_Is_isAt (X : nm_X) (o : Nat) (ho : nm_isl o = true) (p1 : Int32) (p2 : Int32) (σ : nm_St) : Ct X mi_Is_isAt 0 nm_wI [.ref o, .int p1, .int p2] σ (Is_isAt o p1 p2 σ) := by
  refine Ct.of (by decide +kernel) rfl (fun F hF0 => ?_)
  unfold Is_isAt
  refine rn_iload_n (pc := 0) 1 dk_Is_isAt_0 rfl rfl ?_
  refine rn_if_lt (pc := 1) 32 dk_Is_isAt_1 (by decide) (fun c1 => ?_) (fun c1 => ?_)
  · refine rn_iconst (pc := 32) (0 : Int32) dk_Is_isAt_32 cn_i_0 ?_
    exact rn_zret (ty := .boolean) rfl rfl dk_Is_isAt_33
  · refine rn_iload_n (pc := 4) 1 dk_Is_isAt_4 rfl rfl ?_
    refine rn_aload_n (pc := 5) 0 dk_Is_isAt_5 rfl rfl (nm_rok_isl ho) ?_
    refine gf_Is_30 (pc := 6) o ho rfl dk_Is_isAt_6 ?_
    refine rn_icmp_ge (pc := 9) 32 dk_Is_isAt_9 (by decide) (fun c2 => ?_) (fun c2 => ?_)
    · refine rn_iconst (pc := 32) (0 : Int32) dk_Is_isAt_32 cn_i_0 ?_
      exact rn_zret (ty := .boolean) rfl rfl dk_Is_isAt_33
    · refine rn_iload_n (pc := 12) 1 dk_Is_isAt_12 rfl rfl ?_
      refine rn_bipush (pc := 13) (8 : Int32) dk_Is_isAt_13 cn_b_8 ?_
      refine rn_icmp_ge (pc := 15) 32 dk_Is_isAt_15 (by decide) (fun c3 => ?_) (fun c3 => ?_)
      · refine rn_iconst (pc := 32) (0 : Int32) dk_Is_isAt_32 cn_i_0 ?_
        exact rn_zret (ty := .boolean) rfl rfl dk_Is_isAt_33
      · refine rn_aload_n (pc := 18) 0 dk_Is_isAt_18 rfl rfl (nm_rok_isl ho) ?_
        refine gf_Is_27 (pc := 19) o ho rfl dk_Is_isAt_19 ?_
        refine rn_iload_n (pc := 22) 1 dk_Is_isAt_22 rfl rfl ?_
        refine rn_iaload (pc := 23) (nm_i6 ho) dk_Is_isAt_23 (fun g4 => ?_)
        refine rn_iload_n (pc := 24) 2 dk_Is_isAt_24 rfl rfl ?_
        refine rn_icmp_ne (pc := 25) 32 dk_Is_isAt_25 (by decide) (fun c5 => ?_) (fun c5 => ?_)
        · refine rn_iconst (pc := 32) (0 : Int32) dk_Is_isAt_32 cn_i_0 ?_
          exact rn_zret (ty := .boolean) rfl rfl dk_Is_isAt_33
        · refine rn_iconst (pc := 28) (1 : Int32) dk_Is_isAt_28 cn_i_1 ?_
          refine rn_goto (pc := 29) 33 dk_Is_isAt_29 (by decide) ?_
          exact rn_zret (ty := .boolean) rfl rfl dk_Is_isAt_33
theorem dk_Is_kinAtHome_0 : decode mi_Is_kinAtHome.2.1 0 = .ok (.aload_n 0, 1) := by decide +kernel
theorem dk_Is_kinAtHome_1 : decode mi_Is_kinAtHome.2.1 1 = .ok (.iload_n 1, 1) := by decide +kernel
theorem dk_Is_kinAtHome_2 : decode mi_Is_kinAtHome.2.1 2 = .ok (.invokevirtual 59, 3) := by decide +kernel
theorem dk_Is_kinAtHome_5 : decode mi_Is_kinAtHome.2.1 5 = .ok (.ifCond .eq 12, 3) := by decide +kernel
theorem dk_Is_kinAtHome_8 : decode mi_Is_kinAtHome.2.1 8 = .ok (.aload_n 0, 1) := by decide +kernel
theorem dk_Is_kinAtHome_9 : decode mi_Is_kinAtHome.2.1 9 = .ok (.getfield 24, 3) := by decide +kernel
theorem dk_Is_kinAtHome_12 : decode mi_Is_kinAtHome.2.1 12 = .ok (.iload_n 1, 1) := by decide +kernel
theorem dk_Is_kinAtHome_13 : decode mi_Is_kinAtHome.2.1 13 = .ok (.iaload, 1) := by decide +kernel
theorem dk_Is_kinAtHome_14 : decode mi_Is_kinAtHome.2.1 14 = .ok (.goto 4, 3) := by decide +kernel
theorem dk_Is_kinAtHome_17 : decode mi_Is_kinAtHome.2.1 17 = .ok (.iconst 0, 1) := by decide +kernel
theorem dk_Is_kinAtHome_18 : decode mi_Is_kinAtHome.2.1 18 = .ok (.istore_n 2, 1) := by decide +kernel
theorem dk_Is_kinAtHome_19 : decode mi_Is_kinAtHome.2.1 19 = .ok (.iconst 0, 1) := by decide +kernel
theorem dk_Is_kinAtHome_20 : decode mi_Is_kinAtHome.2.1 20 = .ok (.istore_n 3, 1) := by decide +kernel
theorem dk_Is_kinAtHome_21 : decode mi_Is_kinAtHome.2.1 21 = .ok (.iconst 0, 1) := by decide +kernel
theorem dk_Is_kinAtHome_22 : decode mi_Is_kinAtHome.2.1 22 = .ok (.istore 4, 2) := by decide +kernel
theorem dk_Is_kinAtHome_24 : decode mi_Is_kinAtHome.2.1 24 = .ok (.iload 4, 2) := by decide +kernel
theorem dk_Is_kinAtHome_26 : decode mi_Is_kinAtHome.2.1 26 = .ok (.bipush 8, 2) := by decide +kernel
theorem dk_Is_kinAtHome_28 : decode mi_Is_kinAtHome.2.1 28 = .ok (.if_icmp .ge 31, 3) := by decide +kernel
theorem dk_Is_kinAtHome_31 : decode mi_Is_kinAtHome.2.1 31 = .ok (.iload_n 2, 1) := by decide +kernel
theorem dk_Is_kinAtHome_32 : decode mi_Is_kinAtHome.2.1 32 = .ok (.iconst 1, 1) := by decide +kernel
theorem dk_Is_kinAtHome_33 : decode mi_Is_kinAtHome.2.1 33 = .ok (.iload 4, 2) := by decide +kernel
theorem dk_Is_kinAtHome_35 : decode mi_Is_kinAtHome.2.1 35 = .ok (.ishl, 1) := by decide +kernel
theorem dk_Is_kinAtHome_36 : decode mi_Is_kinAtHome.2.1 36 = .ok (.iand, 1) := by decide +kernel
theorem dk_Is_kinAtHome_37 : decode mi_Is_kinAtHome.2.1 37 = .ok (.ifCond .eq 16, 3) := by decide +kernel
theorem dk_Is_kinAtHome_40 : decode mi_Is_kinAtHome.2.1 40 = .ok (.aload_n 0, 1) := by decide +kernel
theorem dk_Is_kinAtHome_41 : decode mi_Is_kinAtHome.2.1 41 = .ok (.iload 4, 2) := by decide +kernel
theorem dk_Is_kinAtHome_43 : decode mi_Is_kinAtHome.2.1 43 = .ok (.iconst 0, 1) := by decide +kernel
theorem dk_Is_kinAtHome_44 : decode mi_Is_kinAtHome.2.1 44 = .ok (.invokevirtual 77, 3) := by decide +kernel
theorem dk_Is_kinAtHome_47 : decode mi_Is_kinAtHome.2.1 47 = .ok (.ifCond .eq 6, 3) := by decide +kernel
theorem dk_Is_kinAtHome_50 : decode mi_Is_kinAtHome.2.1 50 = .ok (.iinc 3 1, 3) := by decide +kernel
theorem dk_Is_kinAtHome_53 : decode mi_Is_kinAtHome.2.1 53 = .ok (.iinc 4 1, 3) := by decide +kernel
theorem dk_Is_kinAtHome_56 : decode mi_Is_kinAtHome.2.1 56 = .ok (.goto (-32), 3) := by decide +kernel
theorem dk_Is_kinAtHome_59 : decode mi_Is_kinAtHome.2.1 59 = .ok (.iload_n 3, 1) := by decide +kernel
theorem dk_Is_kinAtHome_60 : decode mi_Is_kinAtHome.2.1 60 = .ok (.ireturn, 1) := by decide +kernel
def Is_kinAtHome_l24 (o : Nat) (k_59 : Int32 → nm_St → Option (Int32 × nm_St)) : Nat → Int32 → Int32 → Int32 → nm_St → Option (Int32 × nm_St)
  | 0, _, _, _, _ => none
  | n + 1, x2, x3, x4, σ =>
    (if (8 : Int32) ≤ x4 then
      k_59 x3 σ
    else
      (if (x2 &&& ((1 : Int32) <<< (x4 &&& 31))) = 0 then
        (Is_kinAtHome_l24 o k_59 n) x2 x3 (x4 + (1 : Int32)) σ
      else
        ((Is_isAt o x4 (0 : Int32) σ).bind fun q5 =>
        (if q5.1 = 0 then
          (Is_kinAtHome_l24 o k_59 n) x2 x3 (x4 + (1 : Int32)) q5.2
        else
          (Is_kinAtHome_l24 o k_59 n) x2 (x3 + (1 : Int32)) (x4 + (1 : Int32)) q5.2))))
set_option maxRecDepth 100000 in
set_option maxHeartbeats 4000000 in
theorem r_Is_kinAtHome_l24 (X : nm_X) (F : nm_F) (hF0 : 1 ≤ nm_d F) (o : Nat) (ho : nm_isl o = true) (k_59 : Int32 → nm_St → Option (Int32 × nm_St)) (hk_59 : ∀ (x3 : Int32) (σ : nm_St), Rn X mi_Is_kinAtHome F (nm_Qf X F nm_wI) [(3, .int x3)] [] 59 σ (k_59 x3 σ)) : ∀ (n : Nat) (x2 : Int32) (x3 : Int32) (x4 : Int32) (σ : nm_St), Rn X mi_Is_kinAtHome F (nm_Qf X F nm_wI) [(0, .ref o), (2, .int x2), (3, .int x3), (4, .int x4)] [] 24 σ (Is_kinAtHome_l24 o k_59 n x2 x3 x4 σ) := by
  intro n
  induction n with
  | zero =>
    intro x2 x3 x4 σ
    exact rn_none
  | succ n ih =>
    intro x2 x3 x4 σ
    unfold Is_kinAtHome_l24
    refine rn_iload (pc := 24) dk_Is_kinAtHome_24 rfl ?_
    refine rn_bipush (pc := 26) (8 : Int32) dk_Is_kinAtHome_26 cn_b_8 ?_
    refine rn_icmp_ge (pc := 28) 59 dk_Is_kinAtHome_28 (by decide) (fun c3 => ?_) (fun c3 => ?_)
    · exact rn_sub (by rfl) (hk_59 x3 σ)
    · refine rn_iload_n (pc := 31) 2 dk_Is_kinAtHome_31 rfl rfl ?_
      refine rn_iconst (pc := 32) (1 : Int32) dk_Is_kinAtHome_32 cn_i_1 ?_
      refine rn_iload (pc := 33) dk_Is_kinAtHome_33 rfl ?_
      refine rn_ishl (pc := 35) dk_Is_kinAtHome_35 ?_
      refine rn_iand (pc := 36) dk_Is_kinAtHome_36 ?_
      refine rn_if_eq (pc := 37) 53 dk_Is_kinAtHome_37 (by decide) (fun c4 => ?_) (fun c4 => ?_)
      · refine rn_iinc (pc := 53) (1 : Int32) dk_Is_kinAtHome_53 cn_i_1 rfl rfl rfl ?_
        refine rn_goto (pc := 56) 24 dk_Is_kinAtHome_56 (by decide) ?_
        exact rn_sub (by rfl) (ih x2 x3 (x4 + (1 : Int32)) σ)
      · refine rn_aload_n (pc := 40) 0 dk_Is_kinAtHome_40 rfl rfl (nm_rok_isl ho) ?_
        refine rn_iload (pc := 41) dk_Is_kinAtHome_41 rfl ?_
        refine rn_iconst (pc := 43) (0 : Int32) dk_Is_kinAtHome_43 cn_i_0 ?_
        refine cl_Is_77 (pc := 44) (As := [.int x4, .int (0 : Int32)]) (st := []) o ho rfl (ct_Is_isAt X o ho x4 (0 : Int32) σ) (Nat.le_trans (Nat.le_of_ble_eq_true rfl) hF0) rfl rfl (Nat.le_of_ble_eq_true rfl) dk_Is_kinAtHome_44 (fun q5 => ?_)
        refine rn_if_eq (pc := 47) 53 dk_Is_kinAtHome_47 (by decide) (fun c6 => ?_) (fun c6 => ?_)
        · refine rn_iinc (pc := 53) (1 : Int32) dk_Is_kinAtHome_53 cn_i_1 rfl rfl rfl ?_
          refine rn_goto (pc := 56) 24 dk_Is_kinAtHome_56 (by decide) ?_
          exact rn_sub (by rfl) (ih x2 x3 (x4 + (1 : Int32)) q5.2)
        · refine rn_iinc (pc := 50) (1 : Int32) dk_Is_kinAtHome_50 cn_i_1 rfl rfl rfl ?_
          refine rn_iinc (pc := 53) (1 : Int32) dk_Is_kinAtHome_53 cn_i_1 rfl rfl rfl ?_
          refine rn_goto (pc := 56) 24 dk_Is_kinAtHome_56 (by decide) ?_
          exact rn_sub (by rfl) (ih x2 (x3 + (1 : Int32)) (x4 + (1 : Int32)) q5.2)
def Is_kinAtHome_j18 (o : Nat) (y0 : Int32) (σ : nm_St) : Option (Int32 × nm_St) :=
  Is_kinAtHome_l24 o (fun (e8 : Int32) (s7 : nm_St) =>
    some (e8, s7)) 400 y0 (0 : Int32) (0 : Int32) σ
set_option maxRecDepth 100000 in
set_option maxHeartbeats 4000000 in
theorem r_Is_kinAtHome_j18 (X : nm_X) (F : nm_F) (hF0 : 1 ≤ nm_d F) (o : Nat) (ho : nm_isl o = true) (y0 : Int32) (σ : nm_St) : Rn X mi_Is_kinAtHome F (nm_Qf X F nm_wI) [(0, .ref o)] [.int y0] 18 σ (Is_kinAtHome_j18 o y0 σ) := by
  unfold Is_kinAtHome_j18
  refine rn_istore_n (pc := 18) 2 dk_Is_kinAtHome_18 rfl rfl rfl ?_
  refine rn_iconst (pc := 19) (0 : Int32) dk_Is_kinAtHome_19 cn_i_0 ?_
  refine rn_istore_n (pc := 20) 3 dk_Is_kinAtHome_20 rfl rfl rfl ?_
  refine rn_iconst (pc := 21) (0 : Int32) dk_Is_kinAtHome_21 cn_i_0 ?_
  refine rn_istore (pc := 22) dk_Is_kinAtHome_22 rfl rfl ?_
  refine rn_sub (by rfl) (r_Is_kinAtHome_l24 X F hF0 o ho _ (fun e8 s7 => ?_) 400 y0 (0 : Int32) (0 : Int32) σ)
  refine rn_iload_n (pc := 59) 3 dk_Is_kinAtHome_59 rfl rfl ?_
  exact rn_iret rfl dk_Is_kinAtHome_60
def Is_kinAtHome (o : Nat) (p1 : Int32) (σ : nm_St) : Option (Int32 × nm_St) :=
  ((Is_isMaker o p1 σ).bind fun q1 =>
  (if q1.1 = 0 then
    Is_kinAtHome_j18 o (0 : Int32) q1.2
  else
    (nm_g (nm_in p1 8) (
    Is_kinAtHome_j18 o (q1.2.1 (o + 5) p1.toNatClampNeg) q1.2))))
set_option maxRecDepth 100000 in
set_option maxHeartbeats 4000000 in
theorem ct_Is_kinAtHome (X : nm_X) (o : Nat) (ho : nm_isl o = true) (p1 : Int32) (σ : nm_St) : Ct X mi_Is_kinAtHome 1 nm_wI [.ref o, .int p1] σ (Is_kinAtHome o p1 σ) := by
  refine Ct.of (by decide +kernel) rfl (fun F hF0 => ?_)
  unfold Is_kinAtHome
  refine rn_aload_n (pc := 0) 0 dk_Is_kinAtHome_0 rfl rfl (nm_rok_isl ho) ?_
  refine rn_iload_n (pc := 1) 1 dk_Is_kinAtHome_1 rfl rfl ?_
  refine cl_Is_59 (pc := 2) (As := [.int p1]) (st := []) o ho rfl (ct_Is_isMaker X o ho p1 σ) (Nat.le_trans (Nat.le_of_ble_eq_true rfl) hF0) rfl rfl (Nat.le_of_ble_eq_true rfl) dk_Is_kinAtHome_2 (fun q1 => ?_)
  refine rn_if_eq (pc := 5) 17 dk_Is_kinAtHome_5 (by decide) (fun c2 => ?_) (fun c2 => ?_)
  · refine rn_iconst (pc := 17) (0 : Int32) dk_Is_kinAtHome_17 cn_i_0 ?_
    exact rn_sub (by rfl) (r_Is_kinAtHome_j18 X F hF0 o ho (0 : Int32) q1.2)
  · refine rn_aload_n (pc := 8) 0 dk_Is_kinAtHome_8 rfl rfl (nm_rok_isl ho) ?_
    refine gf_Is_24 (pc := 9) o ho rfl dk_Is_kinAtHome_9 ?_
    refine rn_iload_n (pc := 12) 1 dk_Is_kinAtHome_12 rfl rfl ?_
    refine rn_iaload (pc := 13) (nm_i5 ho) dk_Is_kinAtHome_13 (fun g9 => ?_)
    refine rn_goto (pc := 14) 18 dk_Is_kinAtHome_14 (by decide) ?_
    exact rn_sub (by rfl) (r_Is_kinAtHome_j18 X F hF0 o ho (q1.2.1 (o + 5) p1.toNatClampNeg) q1.2)
theorem dk_Is_priceOf_0 : decode mi_Is_priceOf.2.1 0 = .ok (.aload_n 0, 1) := by decide +kernel
theorem dk_Is_priceOf_1 : decode mi_Is_priceOf.2.1 1 = .ok (.iload_n 1, 1) := by decide +kernel
theorem dk_Is_priceOf_2 : decode mi_Is_priceOf.2.1 2 = .ok (.invokevirtual 59, 3) := by decide +kernel
theorem dk_Is_priceOf_5 : decode mi_Is_priceOf.2.1 5 = .ok (.ifCond .ne 5, 3) := by decide +kernel
theorem dk_Is_priceOf_8 : decode mi_Is_priceOf.2.1 8 = .ok (.iconst 0, 1) := by decide +kernel
theorem dk_Is_priceOf_9 : decode mi_Is_priceOf.2.1 9 = .ok (.ireturn, 1) := by decide +kernel
theorem dk_Is_priceOf_10 : decode mi_Is_priceOf.2.1 10 = .ok (.aload_n 0, 1) := by decide +kernel
theorem dk_Is_priceOf_11 : decode mi_Is_priceOf.2.1 11 = .ok (.getfield 9, 3) := by decide +kernel
theorem dk_Is_priceOf_14 : decode mi_Is_priceOf.2.1 14 = .ok (.iload_n 1, 1) := by decide +kernel
theorem dk_Is_priceOf_15 : decode mi_Is_priceOf.2.1 15 = .ok (.iaload, 1) := by decide +kernel
theorem dk_Is_priceOf_16 : decode mi_Is_priceOf.2.1 16 = .ok (.tableswitch 158 1 6 #[40, 89, 60, 110, 103, 133], 40) := by decide +kernel
theorem dk_Is_priceOf_56 : decode mi_Is_priceOf.2.1 56 = .ok (.aload_n 0, 1) := by decide +kernel
theorem dk_Is_priceOf_57 : decode mi_Is_priceOf.2.1 57 = .ok (.getfield 18, 3) := by decide +kernel
theorem dk_Is_priceOf_60 : decode mi_Is_priceOf.2.1 60 = .ok (.iload_n 1, 1) := by decide +kernel
theorem dk_Is_priceOf_61 : decode mi_Is_priceOf.2.1 61 = .ok (.iaload, 1) := by decide +kernel
theorem dk_Is_priceOf_62 : decode mi_Is_priceOf.2.1 62 = .ok (.aload_n 0, 1) := by decide +kernel
theorem dk_Is_priceOf_63 : decode mi_Is_priceOf.2.1 63 = .ok (.getfield 37, 3) := by decide +kernel
theorem dk_Is_priceOf_66 : decode mi_Is_priceOf.2.1 66 = .ok (.iadd, 1) := by decide +kernel
theorem dk_Is_priceOf_67 : decode mi_Is_priceOf.2.1 67 = .ok (.iconst 5, 1) := by decide +kernel
theorem dk_Is_priceOf_68 : decode mi_Is_priceOf.2.1 68 = .ok (.aload_n 0, 1) := by decide +kernel
theorem dk_Is_priceOf_69 : decode mi_Is_priceOf.2.1 69 = .ok (.iload_n 1, 1) := by decide +kernel
theorem dk_Is_priceOf_70 : decode mi_Is_priceOf.2.1 70 = .ok (.invokevirtual 74, 3) := by decide +kernel
theorem dk_Is_priceOf_73 : decode mi_Is_priceOf.2.1 73 = .ok (.imul, 1) := by decide +kernel
theorem dk_Is_priceOf_74 : decode mi_Is_priceOf.2.1 74 = .ok (.iadd, 1) := by decide +kernel
theorem dk_Is_priceOf_75 : decode mi_Is_priceOf.2.1 75 = .ok (.ireturn, 1) := by decide +kernel
theorem dk_Is_priceOf_76 : decode mi_Is_priceOf.2.1 76 = .ok (.aload_n 0, 1) := by decide +kernel
theorem dk_Is_priceOf_77 : decode mi_Is_priceOf.2.1 77 = .ok (.getfield 18, 3) := by decide +kernel
theorem dk_Is_priceOf_80 : decode mi_Is_priceOf.2.1 80 = .ok (.iload_n 1, 1) := by decide +kernel
theorem dk_Is_priceOf_81 : decode mi_Is_priceOf.2.1 81 = .ok (.iaload, 1) := by decide +kernel
theorem dk_Is_priceOf_82 : decode mi_Is_priceOf.2.1 82 = .ok (.aload_n 0, 1) := by decide +kernel
theorem dk_Is_priceOf_83 : decode mi_Is_priceOf.2.1 83 = .ok (.getfield 37, 3) := by decide +kernel
theorem dk_Is_priceOf_86 : decode mi_Is_priceOf.2.1 86 = .ok (.iadd, 1) := by decide +kernel
theorem dk_Is_priceOf_87 : decode mi_Is_priceOf.2.1 87 = .ok (.iconst 5, 1) := by decide +kernel
theorem dk_Is_priceOf_88 : decode mi_Is_priceOf.2.1 88 = .ok (.aload_n 0, 1) := by decide +kernel
theorem dk_Is_priceOf_89 : decode mi_Is_priceOf.2.1 89 = .ok (.iload_n 1, 1) := by decide +kernel
theorem dk_Is_priceOf_90 : decode mi_Is_priceOf.2.1 90 = .ok (.invokevirtual 74, 3) := by decide +kernel
theorem dk_Is_priceOf_93 : decode mi_Is_priceOf.2.1 93 = .ok (.imul, 1) := by decide +kernel
theorem dk_Is_priceOf_94 : decode mi_Is_priceOf.2.1 94 = .ok (.iadd, 1) := by decide +kernel
theorem dk_Is_priceOf_95 : decode mi_Is_priceOf.2.1 95 = .ok (.iconst 3, 1) := by decide +kernel
theorem dk_Is_priceOf_96 : decode mi_Is_priceOf.2.1 96 = .ok (.aload_n 0, 1) := by decide +kernel
theorem dk_Is_priceOf_97 : decode mi_Is_priceOf.2.1 97 = .ok (.getfield 15, 3) := by decide +kernel
theorem dk_Is_priceOf_100 : decode mi_Is_priceOf.2.1 100 = .ok (.iload_n 1, 1) := by decide +kernel
theorem dk_Is_priceOf_101 : decode mi_Is_priceOf.2.1 101 = .ok (.iaload, 1) := by decide +kernel
theorem dk_Is_priceOf_102 : decode mi_Is_priceOf.2.1 102 = .ok (.imul, 1) := by decide +kernel
theorem dk_Is_priceOf_103 : decode mi_Is_priceOf.2.1 103 = .ok (.iadd, 1) := by decide +kernel
theorem dk_Is_priceOf_104 : decode mi_Is_priceOf.2.1 104 = .ok (.ireturn, 1) := by decide +kernel
theorem dk_Is_priceOf_105 : decode mi_Is_priceOf.2.1 105 = .ok (.aload_n 0, 1) := by decide +kernel
theorem dk_Is_priceOf_106 : decode mi_Is_priceOf.2.1 106 = .ok (.getfield 18, 3) := by decide +kernel
theorem dk_Is_priceOf_109 : decode mi_Is_priceOf.2.1 109 = .ok (.iload_n 1, 1) := by decide +kernel
theorem dk_Is_priceOf_110 : decode mi_Is_priceOf.2.1 110 = .ok (.iaload, 1) := by decide +kernel
theorem dk_Is_priceOf_111 : decode mi_Is_priceOf.2.1 111 = .ok (.iconst 2, 1) := by decide +kernel
theorem dk_Is_priceOf_112 : decode mi_Is_priceOf.2.1 112 = .ok (.idiv, 1) := by decide +kernel
theorem dk_Is_priceOf_113 : decode mi_Is_priceOf.2.1 113 = .ok (.aload_n 0, 1) := by decide +kernel
theorem dk_Is_priceOf_114 : decode mi_Is_priceOf.2.1 114 = .ok (.getfield 37, 3) := by decide +kernel
theorem dk_Is_priceOf_117 : decode mi_Is_priceOf.2.1 117 = .ok (.iadd, 1) := by decide +kernel
theorem dk_Is_priceOf_118 : decode mi_Is_priceOf.2.1 118 = .ok (.ireturn, 1) := by decide +kernel
theorem dk_Is_priceOf_119 : decode mi_Is_priceOf.2.1 119 = .ok (.aload_n 0, 1) := by decide +kernel
theorem dk_Is_priceOf_120 : decode mi_Is_priceOf.2.1 120 = .ok (.getfield 15, 3) := by decide +kernel
theorem dk_Is_priceOf_123 : decode mi_Is_priceOf.2.1 123 = .ok (.iload_n 1, 1) := by decide +kernel
theorem dk_Is_priceOf_124 : decode mi_Is_priceOf.2.1 124 = .ok (.iaload, 1) := by decide +kernel
theorem dk_Is_priceOf_125 : decode mi_Is_priceOf.2.1 125 = .ok (.ireturn, 1) := by decide +kernel
theorem dk_Is_priceOf_126 : decode mi_Is_priceOf.2.1 126 = .ok (.iconst 0, 1) := by decide +kernel
theorem dk_Is_priceOf_127 : decode mi_Is_priceOf.2.1 127 = .ok (.aload_n 0, 1) := by decide +kernel
theorem dk_Is_priceOf_128 : decode mi_Is_priceOf.2.1 128 = .ok (.getfield 18, 3) := by decide +kernel
theorem dk_Is_priceOf_131 : decode mi_Is_priceOf.2.1 131 = .ok (.iload_n 1, 1) := by decide +kernel
theorem dk_Is_priceOf_132 : decode mi_Is_priceOf.2.1 132 = .ok (.iaload, 1) := by decide +kernel
theorem dk_Is_priceOf_133 : decode mi_Is_priceOf.2.1 133 = .ok (.aload_n 0, 1) := by decide +kernel
theorem dk_Is_priceOf_134 : decode mi_Is_priceOf.2.1 134 = .ok (.getfield 15, 3) := by decide +kernel
theorem dk_Is_priceOf_137 : decode mi_Is_priceOf.2.1 137 = .ok (.iload_n 1, 1) := by decide +kernel
theorem dk_Is_priceOf_138 : decode mi_Is_priceOf.2.1 138 = .ok (.iaload, 1) := by decide +kernel
theorem dk_Is_priceOf_139 : decode mi_Is_priceOf.2.1 139 = .ok (.isub, 1) := by decide +kernel
theorem dk_Is_priceOf_140 : decode mi_Is_priceOf.2.1 140 = .ok (.invokestatic 106, 3) := by decide +kernel
theorem dk_Is_priceOf_143 : decode mi_Is_priceOf.2.1 143 = .ok (.aload_n 0, 1) := by decide +kernel
theorem dk_Is_priceOf_144 : decode mi_Is_priceOf.2.1 144 = .ok (.getfield 37, 3) := by decide +kernel
theorem dk_Is_priceOf_147 : decode mi_Is_priceOf.2.1 147 = .ok (.iadd, 1) := by decide +kernel
theorem dk_Is_priceOf_148 : decode mi_Is_priceOf.2.1 148 = .ok (.ireturn, 1) := by decide +kernel
theorem dk_Is_priceOf_149 : decode mi_Is_priceOf.2.1 149 = .ok (.iconst 0, 1) := by decide +kernel
theorem dk_Is_priceOf_150 : decode mi_Is_priceOf.2.1 150 = .ok (.aload_n 0, 1) := by decide +kernel
theorem dk_Is_priceOf_151 : decode mi_Is_priceOf.2.1 151 = .ok (.getfield 18, 3) := by decide +kernel
theorem dk_Is_priceOf_154 : decode mi_Is_priceOf.2.1 154 = .ok (.iload_n 1, 1) := by decide +kernel
theorem dk_Is_priceOf_155 : decode mi_Is_priceOf.2.1 155 = .ok (.iaload, 1) := by decide +kernel
theorem dk_Is_priceOf_156 : decode mi_Is_priceOf.2.1 156 = .ok (.aload_n 0, 1) := by decide +kernel
theorem dk_Is_priceOf_157 : decode mi_Is_priceOf.2.1 157 = .ok (.getfield 15, 3) := by decide +kernel
theorem dk_Is_priceOf_160 : decode mi_Is_priceOf.2.1 160 = .ok (.iload_n 1, 1) := by decide +kernel
theorem dk_Is_priceOf_161 : decode mi_Is_priceOf.2.1 161 = .ok (.iaload, 1) := by decide +kernel
theorem dk_Is_priceOf_162 : decode mi_Is_priceOf.2.1 162 = .ok (.isub, 1) := by decide +kernel
theorem dk_Is_priceOf_163 : decode mi_Is_priceOf.2.1 163 = .ok (.invokestatic 106, 3) := by decide +kernel
theorem dk_Is_priceOf_166 : decode mi_Is_priceOf.2.1 166 = .ok (.aload_n 0, 1) := by decide +kernel
theorem dk_Is_priceOf_167 : decode mi_Is_priceOf.2.1 167 = .ok (.getfield 37, 3) := by decide +kernel
theorem dk_Is_priceOf_170 : decode mi_Is_priceOf.2.1 170 = .ok (.iconst 2, 1) := by decide +kernel
theorem dk_Is_priceOf_171 : decode mi_Is_priceOf.2.1 171 = .ok (.idiv, 1) := by decide +kernel
theorem dk_Is_priceOf_172 : decode mi_Is_priceOf.2.1 172 = .ok (.iadd, 1) := by decide +kernel
theorem dk_Is_priceOf_173 : decode mi_Is_priceOf.2.1 173 = .ok (.ireturn, 1) := by decide +kernel
theorem dk_Is_priceOf_174 : decode mi_Is_priceOf.2.1 174 = .ok (.aload_n 0, 1) := by decide +kernel
theorem dk_Is_priceOf_175 : decode mi_Is_priceOf.2.1 175 = .ok (.getfield 18, 3) := by decide +kernel
theorem dk_Is_priceOf_178 : decode mi_Is_priceOf.2.1 178 = .ok (.iload_n 1, 1) := by decide +kernel
theorem dk_Is_priceOf_179 : decode mi_Is_priceOf.2.1 179 = .ok (.iaload, 1) := by decide +kernel
theorem dk_Is_priceOf_180 : decode mi_Is_priceOf.2.1 180 = .ok (.aload_n 0, 1) := by decide +kernel
theorem dk_Is_priceOf_181 : decode mi_Is_priceOf.2.1 181 = .ok (.getfield 37, 3) := by decide +kernel
theorem dk_Is_priceOf_184 : decode mi_Is_priceOf.2.1 184 = .ok (.iadd, 1) := by decide +kernel
theorem dk_Is_priceOf_185 : decode mi_Is_priceOf.2.1 185 = .ok (.ireturn, 1) := by decide +kernel
def Is_priceOf (o : Nat) (p1 : Int32) (σ : nm_St) : Option (Int32 × nm_St) :=
  ((Is_isMaker o p1 σ).bind fun q1 =>
  (if q1.1 = 0 then
    some ((0 : Int32), q1.2)
  else
    (nm_g (nm_in p1 8) (
    (if (q1.2.1 (o + 1) p1.toNatClampNeg) = (1 : Int32) then
      (nm_g (nm_in p1 8) (
      ((Is_kinAtHome o p1 q1.2).bind fun q6 =>
      some ((((q1.2.1 (o + 3) p1.toNatClampNeg) + (q1.2.1 o 8)) + ((5 : Int32) * q6.1)), q6.2))))
    else
    (if (q1.2.1 (o + 1) p1.toNatClampNeg) = (2 : Int32) then
      (nm_g (nm_in p1 8) (
      (nm_g (!decide ((2 : Int32) = 0)) (
      some ((((q1.2.1 (o + 3) p1.toNatClampNeg) / (2 : Int32)) + (q1.2.1 o 8)), q1.2)))))
    else
    (if (q1.2.1 (o + 1) p1.toNatClampNeg) = (3 : Int32) then
      (nm_g (nm_in p1 8) (
      ((Is_kinAtHome o p1 q1.2).bind fun q9 =>
      (nm_g (nm_in p1 8) (
      some (((((q1.2.1 (o + 3) p1.toNatClampNeg) + (q1.2.1 o 8)) + ((5 : Int32) * q9.1)) + ((3 : Int32) * (q9.2.1 (o + 2) p1.toNatClampNeg))), q9.2))))))
    else
    (if (q1.2.1 (o + 1) p1.toNatClampNeg) = (4 : Int32) then
      (nm_g (nm_in p1 8) (
      (nm_g (nm_in p1 8) (
      (nm_let ((if (0 : Int32) < ((q1.2.1 (o + 3) p1.toNatClampNeg) - (q1.2.1 (o + 2) p1.toNatClampNeg)) then ((q1.2.1 (o + 3) p1.toNatClampNeg) - (q1.2.1 (o + 2) p1.toNatClampNeg)) else (0 : Int32))) fun v13 =>
      some ((v13 + (q1.2.1 o 8)), q1.2))))))
    else
    (if (q1.2.1 (o + 1) p1.toNatClampNeg) = (5 : Int32) then
      (nm_g (nm_in p1 8) (
      some ((q1.2.1 (o + 2) p1.toNatClampNeg), q1.2)))
    else
    (if (q1.2.1 (o + 1) p1.toNatClampNeg) = (6 : Int32) then
      (nm_g (nm_in p1 8) (
      (nm_g (nm_in p1 8) (
      (nm_let ((if (0 : Int32) < ((q1.2.1 (o + 3) p1.toNatClampNeg) - (q1.2.1 (o + 2) p1.toNatClampNeg)) then ((q1.2.1 (o + 3) p1.toNatClampNeg) - (q1.2.1 (o + 2) p1.toNatClampNeg)) else (0 : Int32))) fun v17 =>
      (nm_g (!decide ((2 : Int32) = 0)) (
      some ((v17 + ((q1.2.1 o 8) / (2 : Int32))), q1.2))))))))
    else
      (nm_g (nm_in p1 8) (
      some (((q1.2.1 (o + 3) p1.toNatClampNeg) + (q1.2.1 o 8)), q1.2)))))))))))))
set_option maxRecDepth 100000 in
set_option maxHeartbeats 4000000 in
theorem ct_Is_priceOf (X : nm_X) (o : Nat) (ho : nm_isl o = true) (p1 : Int32) (σ : nm_St) : Ct X mi_Is_priceOf 2 nm_wI [.ref o, .int p1] σ (Is_priceOf o p1 σ) := by
  refine Ct.of (by decide +kernel) rfl (fun F hF0 => ?_)
  unfold Is_priceOf
  refine rn_aload_n (pc := 0) 0 dk_Is_priceOf_0 rfl rfl (nm_rok_isl ho) ?_
  refine rn_iload_n (pc := 1) 1 dk_Is_priceOf_1 rfl rfl ?_
  refine cl_Is_59 (pc := 2) (As := [.int p1]) (st := []) o ho rfl (ct_Is_isMaker X o ho p1 σ) (Nat.le_trans (Nat.le_of_ble_eq_true rfl) hF0) rfl rfl (Nat.le_of_ble_eq_true rfl) dk_Is_priceOf_2 (fun q1 => ?_)
  refine rn_if_ne (pc := 5) 10 dk_Is_priceOf_5 (by decide) (fun c2 => ?_) (fun c2 => ?_)
  · refine rn_aload_n (pc := 10) 0 dk_Is_priceOf_10 rfl rfl (nm_rok_isl ho) ?_
    refine gf_Is_9 (pc := 11) o ho rfl dk_Is_priceOf_11 ?_
    refine rn_iload_n (pc := 14) 1 dk_Is_priceOf_14 rfl rfl ?_
    refine rn_iaload (pc := 15) (nm_i1 ho) dk_Is_priceOf_15 (fun g3 => ?_)
    refine rn_tcase (pc := 16) 0 (1 : Int32) 56 dk_Is_priceOf_16 (by decide) (by decide) rfl (by decide) (fun c4_0 => ?_) (fun c4_0 => ?_)
    · refine rn_aload_n (pc := 56) 0 dk_Is_priceOf_56 rfl rfl (nm_rok_isl ho) ?_
      refine gf_Is_18 (pc := 57) o ho rfl dk_Is_priceOf_57 ?_
      refine rn_iload_n (pc := 60) 1 dk_Is_priceOf_60 rfl rfl ?_
      refine rn_iaload (pc := 61) (nm_i3 ho) dk_Is_priceOf_61 (fun g5 => ?_)
      refine rn_aload_n (pc := 62) 0 dk_Is_priceOf_62 rfl rfl (nm_rok_isl ho) ?_
      refine gf_Is_37 (pc := 63) o ho rfl dk_Is_priceOf_63 ?_
      refine rn_iadd (pc := 66) dk_Is_priceOf_66 ?_
      refine rn_iconst (pc := 67) (5 : Int32) dk_Is_priceOf_67 cn_i_5 ?_
      refine rn_aload_n (pc := 68) 0 dk_Is_priceOf_68 rfl rfl (nm_rok_isl ho) ?_
      refine rn_iload_n (pc := 69) 1 dk_Is_priceOf_69 rfl rfl ?_
      refine cl_Is_74 (pc := 70) (As := [.int p1]) (st := [.int (5 : Int32), .int ((q1.2.1 (o + 3) p1.toNatClampNeg) + (q1.2.1 o 8))]) o ho rfl (ct_Is_kinAtHome X o ho p1 q1.2) (Nat.le_trans (Nat.le_of_ble_eq_true rfl) hF0) rfl rfl (Nat.le_of_ble_eq_true rfl) dk_Is_priceOf_70 (fun q6 => ?_)
      refine rn_imul (pc := 73) dk_Is_priceOf_73 ?_
      refine rn_iadd (pc := 74) dk_Is_priceOf_74 ?_
      exact rn_iret rfl dk_Is_priceOf_75
    refine rn_tcase (pc := 16) 1 (2 : Int32) 105 dk_Is_priceOf_16 (by decide) (by decide) rfl (by decide) (fun c4_1 => ?_) (fun c4_1 => ?_)
    · refine rn_aload_n (pc := 105) 0 dk_Is_priceOf_105 rfl rfl (nm_rok_isl ho) ?_
      refine gf_Is_18 (pc := 106) o ho rfl dk_Is_priceOf_106 ?_
      refine rn_iload_n (pc := 109) 1 dk_Is_priceOf_109 rfl rfl ?_
      refine rn_iaload (pc := 110) (nm_i3 ho) dk_Is_priceOf_110 (fun g7 => ?_)
      refine rn_iconst (pc := 111) (2 : Int32) dk_Is_priceOf_111 cn_i_2 ?_
      refine rn_idiv (pc := 112) dk_Is_priceOf_112 ?_
      refine rn_aload_n (pc := 113) 0 dk_Is_priceOf_113 rfl rfl (nm_rok_isl ho) ?_
      refine gf_Is_37 (pc := 114) o ho rfl dk_Is_priceOf_114 ?_
      refine rn_iadd (pc := 117) dk_Is_priceOf_117 ?_
      exact rn_iret rfl dk_Is_priceOf_118
    refine rn_tcase (pc := 16) 2 (3 : Int32) 76 dk_Is_priceOf_16 (by decide) (by decide) rfl (by decide) (fun c4_2 => ?_) (fun c4_2 => ?_)
    · refine rn_aload_n (pc := 76) 0 dk_Is_priceOf_76 rfl rfl (nm_rok_isl ho) ?_
      refine gf_Is_18 (pc := 77) o ho rfl dk_Is_priceOf_77 ?_
      refine rn_iload_n (pc := 80) 1 dk_Is_priceOf_80 rfl rfl ?_
      refine rn_iaload (pc := 81) (nm_i3 ho) dk_Is_priceOf_81 (fun g8 => ?_)
      refine rn_aload_n (pc := 82) 0 dk_Is_priceOf_82 rfl rfl (nm_rok_isl ho) ?_
      refine gf_Is_37 (pc := 83) o ho rfl dk_Is_priceOf_83 ?_
      refine rn_iadd (pc := 86) dk_Is_priceOf_86 ?_
      refine rn_iconst (pc := 87) (5 : Int32) dk_Is_priceOf_87 cn_i_5 ?_
      refine rn_aload_n (pc := 88) 0 dk_Is_priceOf_88 rfl rfl (nm_rok_isl ho) ?_
      refine rn_iload_n (pc := 89) 1 dk_Is_priceOf_89 rfl rfl ?_
      refine cl_Is_74 (pc := 90) (As := [.int p1]) (st := [.int (5 : Int32), .int ((q1.2.1 (o + 3) p1.toNatClampNeg) + (q1.2.1 o 8))]) o ho rfl (ct_Is_kinAtHome X o ho p1 q1.2) (Nat.le_trans (Nat.le_of_ble_eq_true rfl) hF0) rfl rfl (Nat.le_of_ble_eq_true rfl) dk_Is_priceOf_90 (fun q9 => ?_)
      refine rn_imul (pc := 93) dk_Is_priceOf_93 ?_
      refine rn_iadd (pc := 94) dk_Is_priceOf_94 ?_
      refine rn_iconst (pc := 95) (3 : Int32) dk_Is_priceOf_95 cn_i_3 ?_
      refine rn_aload_n (pc := 96) 0 dk_Is_priceOf_96 rfl rfl (nm_rok_isl ho) ?_
      refine gf_Is_15 (pc := 97) o ho rfl dk_Is_priceOf_97 ?_
      refine rn_iload_n (pc := 100) 1 dk_Is_priceOf_100 rfl rfl ?_
      refine rn_iaload (pc := 101) (nm_i2 ho) dk_Is_priceOf_101 (fun g10 => ?_)
      refine rn_imul (pc := 102) dk_Is_priceOf_102 ?_
      refine rn_iadd (pc := 103) dk_Is_priceOf_103 ?_
      exact rn_iret rfl dk_Is_priceOf_104
    refine rn_tcase (pc := 16) 3 (4 : Int32) 126 dk_Is_priceOf_16 (by decide) (by decide) rfl (by decide) (fun c4_3 => ?_) (fun c4_3 => ?_)
    · refine rn_iconst (pc := 126) (0 : Int32) dk_Is_priceOf_126 cn_i_0 ?_
      refine rn_aload_n (pc := 127) 0 dk_Is_priceOf_127 rfl rfl (nm_rok_isl ho) ?_
      refine gf_Is_18 (pc := 128) o ho rfl dk_Is_priceOf_128 ?_
      refine rn_iload_n (pc := 131) 1 dk_Is_priceOf_131 rfl rfl ?_
      refine rn_iaload (pc := 132) (nm_i3 ho) dk_Is_priceOf_132 (fun g11 => ?_)
      refine rn_aload_n (pc := 133) 0 dk_Is_priceOf_133 rfl rfl (nm_rok_isl ho) ?_
      refine gf_Is_15 (pc := 134) o ho rfl dk_Is_priceOf_134 ?_
      refine rn_iload_n (pc := 137) 1 dk_Is_priceOf_137 rfl rfl ?_
      refine rn_iaload (pc := 138) (nm_i2 ho) dk_Is_priceOf_138 (fun g12 => ?_)
      refine rn_isub (pc := 139) dk_Is_priceOf_139 ?_
      refine rn_mmax (pc := 140) (Nat.le_trans (Nat.le_of_ble_eq_true rfl) hF0) wd_464 (Nat.le_of_ble_eq_true rfl) dk_Is_priceOf_140 ?_
      refine rn_leti (fun v13 => ?_)
      refine rn_aload_n (pc := 143) 0 dk_Is_priceOf_143 rfl rfl (nm_rok_isl ho) ?_
      refine gf_Is_37 (pc := 144) o ho rfl dk_Is_priceOf_144 ?_
      refine rn_iadd (pc := 147) dk_Is_priceOf_147 ?_
      exact rn_iret rfl dk_Is_priceOf_148
    refine rn_tcase (pc := 16) 4 (5 : Int32) 119 dk_Is_priceOf_16 (by decide) (by decide) rfl (by decide) (fun c4_4 => ?_) (fun c4_4 => ?_)
    · refine rn_aload_n (pc := 119) 0 dk_Is_priceOf_119 rfl rfl (nm_rok_isl ho) ?_
      refine gf_Is_15 (pc := 120) o ho rfl dk_Is_priceOf_120 ?_
      refine rn_iload_n (pc := 123) 1 dk_Is_priceOf_123 rfl rfl ?_
      refine rn_iaload (pc := 124) (nm_i2 ho) dk_Is_priceOf_124 (fun g14 => ?_)
      exact rn_iret rfl dk_Is_priceOf_125
    refine rn_tcase (pc := 16) 5 (6 : Int32) 149 dk_Is_priceOf_16 (by decide) (by decide) rfl (by decide) (fun c4_5 => ?_) (fun c4_5 => ?_)
    · refine rn_iconst (pc := 149) (0 : Int32) dk_Is_priceOf_149 cn_i_0 ?_
      refine rn_aload_n (pc := 150) 0 dk_Is_priceOf_150 rfl rfl (nm_rok_isl ho) ?_
      refine gf_Is_18 (pc := 151) o ho rfl dk_Is_priceOf_151 ?_
      refine rn_iload_n (pc := 154) 1 dk_Is_priceOf_154 rfl rfl ?_
      refine rn_iaload (pc := 155) (nm_i3 ho) dk_Is_priceOf_155 (fun g15 => ?_)
      refine rn_aload_n (pc := 156) 0 dk_Is_priceOf_156 rfl rfl (nm_rok_isl ho) ?_
      refine gf_Is_15 (pc := 157) o ho rfl dk_Is_priceOf_157 ?_
      refine rn_iload_n (pc := 160) 1 dk_Is_priceOf_160 rfl rfl ?_
      refine rn_iaload (pc := 161) (nm_i2 ho) dk_Is_priceOf_161 (fun g16 => ?_)
      refine rn_isub (pc := 162) dk_Is_priceOf_162 ?_
      refine rn_mmax (pc := 163) (Nat.le_trans (Nat.le_of_ble_eq_true rfl) hF0) wd_464 (Nat.le_of_ble_eq_true rfl) dk_Is_priceOf_163 ?_
      refine rn_leti (fun v17 => ?_)
      refine rn_aload_n (pc := 166) 0 dk_Is_priceOf_166 rfl rfl (nm_rok_isl ho) ?_
      refine gf_Is_37 (pc := 167) o ho rfl dk_Is_priceOf_167 ?_
      refine rn_iconst (pc := 170) (2 : Int32) dk_Is_priceOf_170 cn_i_2 ?_
      refine rn_idiv (pc := 171) dk_Is_priceOf_171 ?_
      refine rn_iadd (pc := 172) dk_Is_priceOf_172 ?_
      exact rn_iret rfl dk_Is_priceOf_173
    refine rn_tdef (pc := 16) [(1 : Int32), (2 : Int32), (3 : Int32), (4 : Int32), (5 : Int32), (6 : Int32)] 174 dk_Is_priceOf_16 (by decide) (by decide) (List.forall_mem_cons.mpr ⟨c4_0, (List.forall_mem_cons.mpr ⟨c4_1, (List.forall_mem_cons.mpr ⟨c4_2, (List.forall_mem_cons.mpr ⟨c4_3, (List.forall_mem_cons.mpr ⟨c4_4, (List.forall_mem_cons.mpr ⟨c4_5, (fun _ h => absurd h List.not_mem_nil)⟩)⟩)⟩)⟩)⟩)⟩) (by decide) ?_
    refine rn_aload_n (pc := 174) 0 dk_Is_priceOf_174 rfl rfl (nm_rok_isl ho) ?_
    refine gf_Is_18 (pc := 175) o ho rfl dk_Is_priceOf_175 ?_
    refine rn_iload_n (pc := 178) 1 dk_Is_priceOf_178 rfl rfl ?_
    refine rn_iaload (pc := 179) (nm_i3 ho) dk_Is_priceOf_179 (fun g18 => ?_)
    refine rn_aload_n (pc := 180) 0 dk_Is_priceOf_180 rfl rfl (nm_rok_isl ho) ?_
    refine gf_Is_37 (pc := 181) o ho rfl dk_Is_priceOf_181 ?_
    refine rn_iadd (pc := 184) dk_Is_priceOf_184 ?_
    exact rn_iret rfl dk_Is_priceOf_185
  · refine rn_iconst (pc := 8) (0 : Int32) dk_Is_priceOf_8 cn_i_0 ?_
    exact rn_iret rfl dk_Is_priceOf_9
theorem dk_Is_wordOf_0 : decode mi_Is_wordOf.2.1 0 = .ok (.aload_n 0, 1) := by decide +kernel
theorem dk_Is_wordOf_1 : decode mi_Is_wordOf.2.1 1 = .ok (.iload_n 1, 1) := by decide +kernel
theorem dk_Is_wordOf_2 : decode mi_Is_wordOf.2.1 2 = .ok (.invokevirtual 59, 3) := by decide +kernel
theorem dk_Is_wordOf_5 : decode mi_Is_wordOf.2.1 5 = .ok (.ifCond .ne 5, 3) := by decide +kernel
theorem dk_Is_wordOf_8 : decode mi_Is_wordOf.2.1 8 = .ok (.iconst (-1), 1) := by decide +kernel
theorem dk_Is_wordOf_9 : decode mi_Is_wordOf.2.1 9 = .ok (.ireturn, 1) := by decide +kernel
theorem dk_Is_wordOf_10 : decode mi_Is_wordOf.2.1 10 = .ok (.iload_n 2, 1) := by decide +kernel
theorem dk_Is_wordOf_11 : decode mi_Is_wordOf.2.1 11 = .ok (.iconst 1, 1) := by decide +kernel
theorem dk_Is_wordOf_12 : decode mi_Is_wordOf.2.1 12 = .ok (.invokestatic 70, 3) := by decide +kernel
theorem dk_Is_wordOf_15 : decode mi_Is_wordOf.2.1 15 = .ok (.ifCond .eq 9, 3) := by decide +kernel
theorem dk_Is_wordOf_18 : decode mi_Is_wordOf.2.1 18 = .ok (.aload_n 0, 1) := by decide +kernel
theorem dk_Is_wordOf_19 : decode mi_Is_wordOf.2.1 19 = .ok (.iload_n 1, 1) := by decide +kernel
theorem dk_Is_wordOf_20 : decode mi_Is_wordOf.2.1 20 = .ok (.invokevirtual 74, 3) := by decide +kernel
theorem dk_Is_wordOf_23 : decode mi_Is_wordOf.2.1 23 = .ok (.ireturn, 1) := by decide +kernel
theorem dk_Is_wordOf_24 : decode mi_Is_wordOf.2.1 24 = .ok (.iload_n 2, 1) := by decide +kernel
theorem dk_Is_wordOf_25 : decode mi_Is_wordOf.2.1 25 = .ok (.iconst 2, 1) := by decide +kernel
theorem dk_Is_wordOf_26 : decode mi_Is_wordOf.2.1 26 = .ok (.invokestatic 70, 3) := by decide +kernel
theorem dk_Is_wordOf_29 : decode mi_Is_wordOf.2.1 29 = .ok (.ifCond .eq 18, 3) := by decide +kernel
theorem dk_Is_wordOf_32 : decode mi_Is_wordOf.2.1 32 = .ok (.aload_n 0, 1) := by decide +kernel
theorem dk_Is_wordOf_33 : decode mi_Is_wordOf.2.1 33 = .ok (.iload_n 1, 1) := by decide +kernel
theorem dk_Is_wordOf_34 : decode mi_Is_wordOf.2.1 34 = .ok (.iconst 1, 1) := by decide +kernel
theorem dk_Is_wordOf_35 : decode mi_Is_wordOf.2.1 35 = .ok (.invokevirtual 77, 3) := by decide +kernel
theorem dk_Is_wordOf_38 : decode mi_Is_wordOf.2.1 38 = .ok (.ifCond .eq 7, 3) := by decide +kernel
theorem dk_Is_wordOf_41 : decode mi_Is_wordOf.2.1 41 = .ok (.iconst 1, 1) := by decide +kernel
theorem dk_Is_wordOf_42 : decode mi_Is_wordOf.2.1 42 = .ok (.goto 4, 3) := by decide +kernel
theorem dk_Is_wordOf_45 : decode mi_Is_wordOf.2.1 45 = .ok (.iconst 0, 1) := by decide +kernel
theorem dk_Is_wordOf_46 : decode mi_Is_wordOf.2.1 46 = .ok (.ireturn, 1) := by decide +kernel
theorem dk_Is_wordOf_47 : decode mi_Is_wordOf.2.1 47 = .ok (.iload_n 2, 1) := by decide +kernel
theorem dk_Is_wordOf_48 : decode mi_Is_wordOf.2.1 48 = .ok (.iconst 4, 1) := by decide +kernel
theorem dk_Is_wordOf_49 : decode mi_Is_wordOf.2.1 49 = .ok (.invokestatic 70, 3) := by decide +kernel
theorem dk_Is_wordOf_52 : decode mi_Is_wordOf.2.1 52 = .ok (.ifCond .eq 11, 3) := by decide +kernel
theorem dk_Is_wordOf_55 : decode mi_Is_wordOf.2.1 55 = .ok (.aload_n 0, 1) := by decide +kernel
theorem dk_Is_wordOf_56 : decode mi_Is_wordOf.2.1 56 = .ok (.iload_n 1, 1) := by decide +kernel
theorem dk_Is_wordOf_57 : decode mi_Is_wordOf.2.1 57 = .ok (.invokevirtual 66, 3) := by decide +kernel
theorem dk_Is_wordOf_60 : decode mi_Is_wordOf.2.1 60 = .ok (.goto 9, 3) := by decide +kernel
theorem dk_Is_wordOf_63 : decode mi_Is_wordOf.2.1 63 = .ok (.aload_n 0, 1) := by decide +kernel
theorem dk_Is_wordOf_64 : decode mi_Is_wordOf.2.1 64 = .ok (.getfield 18, 3) := by decide +kernel
theorem dk_Is_wordOf_67 : decode mi_Is_wordOf.2.1 67 = .ok (.iload_n 1, 1) := by decide +kernel
theorem dk_Is_wordOf_68 : decode mi_Is_wordOf.2.1 68 = .ok (.iaload, 1) := by decide +kernel
theorem dk_Is_wordOf_69 : decode mi_Is_wordOf.2.1 69 = .ok (.ireturn, 1) := by decide +kernel
def Is_wordOf (o : Nat) (p1 : Int32) (p2 : Int32) (σ : nm_St) : Option (Int32 × nm_St) :=
  ((Is_isMaker o p1 σ).bind fun q1 =>
  (if q1.1 = 0 then
    some ((-1 : Int32), q1.2)
  else
    ((Nm_isUnder p2 (1 : Int32) q1.2).bind fun q3 =>
    (if q3.1 = 0 then
      ((Nm_isUnder p2 (2 : Int32) q3.2).bind fun q5 =>
      (if q5.1 = 0 then
        ((Nm_isUnder p2 (4 : Int32) q5.2).bind fun q7 =>
        (if q7.1 = 0 then
          (nm_g (nm_in p1 8) (
          some ((q7.2.1 (o + 3) p1.toNatClampNeg), q7.2)))
        else
          ((Is_priceOf o p1 q7.2).bind fun q10 =>
          some (q10.1, q10.2))))
      else
        ((Is_isAt o p1 (1 : Int32) q5.2).bind fun q11 =>
        (if q11.1 = 0 then
          some ((0 : Int32), q11.2)
        else
          some ((1 : Int32), q11.2)))))
    else
      ((Is_kinAtHome o p1 q3.2).bind fun q13 =>
      some (q13.1, q13.2))))))
set_option maxRecDepth 100000 in
set_option maxHeartbeats 4000000 in
theorem ct_Is_wordOf (X : nm_X) (o : Nat) (ho : nm_isl o = true) (p1 : Int32) (p2 : Int32) (σ : nm_St) : Ct X mi_Is_wordOf 3 nm_wI [.ref o, .int p1, .int p2] σ (Is_wordOf o p1 p2 σ) := by
  refine Ct.of (by decide +kernel) rfl (fun F hF0 => ?_)
  unfold Is_wordOf
  refine rn_aload_n (pc := 0) 0 dk_Is_wordOf_0 rfl rfl (nm_rok_isl ho) ?_
  refine rn_iload_n (pc := 1) 1 dk_Is_wordOf_1 rfl rfl ?_
  refine cl_Is_59 (pc := 2) (As := [.int p1]) (st := []) o ho rfl (ct_Is_isMaker X o ho p1 σ) (Nat.le_trans (Nat.le_of_ble_eq_true rfl) hF0) rfl rfl (Nat.le_of_ble_eq_true rfl) dk_Is_wordOf_2 (fun q1 => ?_)
  refine rn_if_ne (pc := 5) 10 dk_Is_wordOf_5 (by decide) (fun c2 => ?_) (fun c2 => ?_)
  · refine rn_iload_n (pc := 10) 2 dk_Is_wordOf_10 rfl rfl ?_
    refine rn_iconst (pc := 11) (1 : Int32) dk_Is_wordOf_11 cn_i_1 ?_
    refine cl_Is_70 (pc := 12) (As := [.int p2, .int (1 : Int32)]) (st := []) rfl (ct_Nm_isUnder X p2 (1 : Int32) q1.2) (Nat.le_trans (Nat.le_of_ble_eq_true rfl) hF0) rfl rfl (Nat.le_of_ble_eq_true rfl) dk_Is_wordOf_12 (fun q3 => ?_)
    refine rn_if_eq (pc := 15) 24 dk_Is_wordOf_15 (by decide) (fun c4 => ?_) (fun c4 => ?_)
    · refine rn_iload_n (pc := 24) 2 dk_Is_wordOf_24 rfl rfl ?_
      refine rn_iconst (pc := 25) (2 : Int32) dk_Is_wordOf_25 cn_i_2 ?_
      refine cl_Is_70 (pc := 26) (As := [.int p2, .int (2 : Int32)]) (st := []) rfl (ct_Nm_isUnder X p2 (2 : Int32) q3.2) (Nat.le_trans (Nat.le_of_ble_eq_true rfl) hF0) rfl rfl (Nat.le_of_ble_eq_true rfl) dk_Is_wordOf_26 (fun q5 => ?_)
      refine rn_if_eq (pc := 29) 47 dk_Is_wordOf_29 (by decide) (fun c6 => ?_) (fun c6 => ?_)
      · refine rn_iload_n (pc := 47) 2 dk_Is_wordOf_47 rfl rfl ?_
        refine rn_iconst (pc := 48) (4 : Int32) dk_Is_wordOf_48 cn_i_4 ?_
        refine cl_Is_70 (pc := 49) (As := [.int p2, .int (4 : Int32)]) (st := []) rfl (ct_Nm_isUnder X p2 (4 : Int32) q5.2) (Nat.le_trans (Nat.le_of_ble_eq_true rfl) hF0) rfl rfl (Nat.le_of_ble_eq_true rfl) dk_Is_wordOf_49 (fun q7 => ?_)
        refine rn_if_eq (pc := 52) 63 dk_Is_wordOf_52 (by decide) (fun c8 => ?_) (fun c8 => ?_)
        · refine rn_aload_n (pc := 63) 0 dk_Is_wordOf_63 rfl rfl (nm_rok_isl ho) ?_
          refine gf_Is_18 (pc := 64) o ho rfl dk_Is_wordOf_64 ?_
          refine rn_iload_n (pc := 67) 1 dk_Is_wordOf_67 rfl rfl ?_
          refine rn_iaload (pc := 68) (nm_i3 ho) dk_Is_wordOf_68 (fun g9 => ?_)
          exact rn_iret rfl dk_Is_wordOf_69
        · refine rn_aload_n (pc := 55) 0 dk_Is_wordOf_55 rfl rfl (nm_rok_isl ho) ?_
          refine rn_iload_n (pc := 56) 1 dk_Is_wordOf_56 rfl rfl ?_
          refine cl_Is_66 (pc := 57) (As := [.int p1]) (st := []) o ho rfl (ct_Is_priceOf X o ho p1 q7.2) (Nat.le_trans (Nat.le_of_ble_eq_true rfl) hF0) rfl rfl (Nat.le_of_ble_eq_true rfl) dk_Is_wordOf_57 (fun q10 => ?_)
          refine rn_goto (pc := 60) 69 dk_Is_wordOf_60 (by decide) ?_
          exact rn_iret rfl dk_Is_wordOf_69
      · refine rn_aload_n (pc := 32) 0 dk_Is_wordOf_32 rfl rfl (nm_rok_isl ho) ?_
        refine rn_iload_n (pc := 33) 1 dk_Is_wordOf_33 rfl rfl ?_
        refine rn_iconst (pc := 34) (1 : Int32) dk_Is_wordOf_34 cn_i_1 ?_
        refine cl_Is_77 (pc := 35) (As := [.int p1, .int (1 : Int32)]) (st := []) o ho rfl (ct_Is_isAt X o ho p1 (1 : Int32) q5.2) (Nat.le_trans (Nat.le_of_ble_eq_true rfl) hF0) rfl rfl (Nat.le_of_ble_eq_true rfl) dk_Is_wordOf_35 (fun q11 => ?_)
        refine rn_if_eq (pc := 38) 45 dk_Is_wordOf_38 (by decide) (fun c12 => ?_) (fun c12 => ?_)
        · refine rn_iconst (pc := 45) (0 : Int32) dk_Is_wordOf_45 cn_i_0 ?_
          exact rn_iret rfl dk_Is_wordOf_46
        · refine rn_iconst (pc := 41) (1 : Int32) dk_Is_wordOf_41 cn_i_1 ?_
          refine rn_goto (pc := 42) 46 dk_Is_wordOf_42 (by decide) ?_
          exact rn_iret rfl dk_Is_wordOf_46
    · refine rn_aload_n (pc := 18) 0 dk_Is_wordOf_18 rfl rfl (nm_rok_isl ho) ?_
      refine rn_iload_n (pc := 19) 1 dk_Is_wordOf_19 rfl rfl ?_
      refine cl_Is_74 (pc := 20) (As := [.int p1]) (st := []) o ho rfl (ct_Is_kinAtHome X o ho p1 q3.2) (Nat.le_trans (Nat.le_of_ble_eq_true rfl) hF0) rfl rfl (Nat.le_of_ble_eq_true rfl) dk_Is_wordOf_20 (fun q13 => ?_)
      exact rn_iret rfl dk_Is_wordOf_23
  · refine rn_iconst (pc := 8) (-1 : Int32) dk_Is_wordOf_8 cn_i_m1 ?_
    exact rn_iret rfl dk_Is_wordOf_9
theorem dk_Sh_isRow_0 : decode mi_Sh_isRow.2.1 0 = .ok (.aload_n 0, 1) := by decide +kernel
theorem dk_Sh_isRow_1 : decode mi_Sh_isRow.2.1 1 = .ok (.getfield 15, 3) := by decide +kernel
theorem dk_Sh_isRow_4 : decode mi_Sh_isRow.2.1 4 = .ok (.iconst 1, 1) := by decide +kernel
theorem dk_Sh_isRow_5 : decode mi_Sh_isRow.2.1 5 = .ok (.if_icmp .ne 7, 3) := by decide +kernel
theorem dk_Sh_isRow_8 : decode mi_Sh_isRow.2.1 8 = .ok (.iconst 1, 1) := by decide +kernel
theorem dk_Sh_isRow_9 : decode mi_Sh_isRow.2.1 9 = .ok (.goto 4, 3) := by decide +kernel
theorem dk_Sh_isRow_12 : decode mi_Sh_isRow.2.1 12 = .ok (.iconst 0, 1) := by decide +kernel
theorem dk_Sh_isRow_13 : decode mi_Sh_isRow.2.1 13 = .ok (.ireturn, 1) := by decide +kernel
def Sh_isRow (o : Nat) (σ : nm_St) : Option (Int32 × nm_St) :=
  (if (σ.1 o 1) = (1 : Int32) then
    some ((1 : Int32), σ)
  else
    some ((0 : Int32), σ))
set_option maxRecDepth 100000 in
set_option maxHeartbeats 4000000 in
theorem ct_Sh_isRow (X : nm_X) (o : Nat) (ho : nm_isH o = true) (σ : nm_St) : Ct X mi_Sh_isRow 0 nm_wI [.ref o] σ (Sh_isRow o σ) := by
  refine Ct.of (by decide +kernel) rfl (fun F hF0 => ?_)
  unfold Sh_isRow
  refine rn_aload_n (pc := 0) 0 dk_Sh_isRow_0 rfl rfl (nm_rok_isH ho) ?_
  refine gf_Sh_15 (pc := 1) o ho rfl dk_Sh_isRow_1 ?_
  refine rn_iconst (pc := 4) (1 : Int32) dk_Sh_isRow_4 cn_i_1 ?_
  refine rn_icmp_ne (pc := 5) 12 dk_Sh_isRow_5 (by decide) (fun c1 => ?_) (fun c1 => ?_)
  · refine rn_iconst (pc := 12) (0 : Int32) dk_Sh_isRow_12 cn_i_0 ?_
    exact rn_zret (ty := .boolean) rfl rfl dk_Sh_isRow_13
  · refine rn_iconst (pc := 8) (1 : Int32) dk_Sh_isRow_8 cn_i_1 ?_
    refine rn_goto (pc := 9) 13 dk_Sh_isRow_9 (by decide) ?_
    exact rn_zret (ty := .boolean) rfl rfl dk_Sh_isRow_13
theorem dk_Sh_whose_0 : decode mi_Sh_whose.2.1 0 = .ok (.aload_n 0, 1) := by decide +kernel
theorem dk_Sh_whose_1 : decode mi_Sh_whose.2.1 1 = .ok (.getfield 25, 3) := by decide +kernel
theorem dk_Sh_whose_4 : decode mi_Sh_whose.2.1 4 = .ok (.ireturn, 1) := by decide +kernel
def Sh_whose (o : Nat) (σ : nm_St) : Option (Int32 × nm_St) :=
  some ((σ.1 o 4), σ)
set_option maxRecDepth 100000 in
set_option maxHeartbeats 4000000 in
theorem ct_Sh_whose (X : nm_X) (o : Nat) (ho : nm_isH o = true) (σ : nm_St) : Ct X mi_Sh_whose 0 nm_wI [.ref o] σ (Sh_whose o σ) := by
  refine Ct.of (by decide +kernel) rfl (fun F hF0 => ?_)
  unfold Sh_whose
  refine rn_aload_n (pc := 0) 0 dk_Sh_whose_0 rfl rfl (nm_rok_isH ho) ?_
  refine gf_Sh_25 (pc := 1) o ho rfl dk_Sh_whose_1 ?_
  exact rn_iret rfl dk_Sh_whose_4
theorem dk_Nm_says_0 : decode mi_Nm_says.2.1 0 = .ok (.iload_n 1, 1) := by decide +kernel
theorem dk_Nm_says_1 : decode mi_Nm_says.2.1 1 = .ok (.invokestatic 69, 3) := by decide +kernel
theorem dk_Nm_says_4 : decode mi_Nm_says.2.1 4 = .ok (.ifCond .eq 10, 3) := by decide +kernel
theorem dk_Nm_says_7 : decode mi_Nm_says.2.1 7 = .ok (.iload_n 2, 1) := by decide +kernel
theorem dk_Nm_says_8 : decode mi_Nm_says.2.1 8 = .ok (.invokestatic 121, 3) := by decide +kernel
theorem dk_Nm_says_11 : decode mi_Nm_says.2.1 11 = .ok (.ifCond .ne 9, 3) := by decide +kernel
theorem dk_Nm_says_14 : decode mi_Nm_says.2.1 14 = .ok (.aload_n 0, 1) := by decide +kernel
theorem dk_Nm_says_15 : decode mi_Nm_says.2.1 15 = .ok (.iconst (-1), 1) := by decide +kernel
theorem dk_Nm_says_16 : decode mi_Nm_says.2.1 16 = .ok (.invokevirtual 73, 3) := by decide +kernel
theorem dk_Nm_says_19 : decode mi_Nm_says.2.1 19 = .ok (.ireturn, 1) := by decide +kernel
theorem dk_Nm_says_20 : decode mi_Nm_says.2.1 20 = .ok (.aload_n 0, 1) := by decide +kernel
theorem dk_Nm_says_21 : decode mi_Nm_says.2.1 21 = .ok (.getfield 11, 3) := by decide +kernel
theorem dk_Nm_says_24 : decode mi_Nm_says.2.1 24 = .ok (.iload_n 1, 1) := by decide +kernel
theorem dk_Nm_says_25 : decode mi_Nm_says.2.1 25 = .ok (.aaload, 1) := by decide +kernel
theorem dk_Nm_says_26 : decode mi_Nm_says.2.1 26 = .ok (.invokevirtual 124, 3) := by decide +kernel
theorem dk_Nm_says_29 : decode mi_Nm_says.2.1 29 = .ok (.ifCond .eq 10, 3) := by decide +kernel
theorem dk_Nm_says_32 : decode mi_Nm_says.2.1 32 = .ok (.aload_n 0, 1) := by decide +kernel
theorem dk_Nm_says_33 : decode mi_Nm_says.2.1 33 = .ok (.bipush (-2), 2) := by decide +kernel
theorem dk_Nm_says_35 : decode mi_Nm_says.2.1 35 = .ok (.invokevirtual 73, 3) := by decide +kernel
theorem dk_Nm_says_38 : decode mi_Nm_says.2.1 38 = .ok (.ireturn, 1) := by decide +kernel
theorem dk_Nm_says_39 : decode mi_Nm_says.2.1 39 = .ok (.aload_n 0, 1) := by decide +kernel
theorem dk_Nm_says_40 : decode mi_Nm_says.2.1 40 = .ok (.getfield 11, 3) := by decide +kernel
theorem dk_Nm_says_43 : decode mi_Nm_says.2.1 43 = .ok (.iload_n 1, 1) := by decide +kernel
theorem dk_Nm_says_44 : decode mi_Nm_says.2.1 44 = .ok (.aaload, 1) := by decide +kernel
theorem dk_Nm_says_45 : decode mi_Nm_says.2.1 45 = .ok (.invokevirtual 128, 3) := by decide +kernel
theorem dk_Nm_says_48 : decode mi_Nm_says.2.1 48 = .ok (.ifCond .eq 10, 3) := by decide +kernel
theorem dk_Nm_says_51 : decode mi_Nm_says.2.1 51 = .ok (.aload_n 0, 1) := by decide +kernel
theorem dk_Nm_says_52 : decode mi_Nm_says.2.1 52 = .ok (.bipush (-3), 2) := by decide +kernel
theorem dk_Nm_says_54 : decode mi_Nm_says.2.1 54 = .ok (.invokevirtual 73, 3) := by decide +kernel
theorem dk_Nm_says_57 : decode mi_Nm_says.2.1 57 = .ok (.ireturn, 1) := by decide +kernel
theorem dk_Nm_says_58 : decode mi_Nm_says.2.1 58 = .ok (.aload_n 0, 1) := by decide +kernel
theorem dk_Nm_says_59 : decode mi_Nm_says.2.1 59 = .ok (.getfield 11, 3) := by decide +kernel
theorem dk_Nm_says_62 : decode mi_Nm_says.2.1 62 = .ok (.iload_n 1, 1) := by decide +kernel
theorem dk_Nm_says_63 : decode mi_Nm_says.2.1 63 = .ok (.aaload, 1) := by decide +kernel
theorem dk_Nm_says_64 : decode mi_Nm_says.2.1 64 = .ok (.invokevirtual 131, 3) := by decide +kernel
theorem dk_Nm_says_67 : decode mi_Nm_says.2.1 67 = .ok (.istore_n 3, 1) := by decide +kernel
theorem dk_Nm_says_68 : decode mi_Nm_says.2.1 68 = .ok (.aload_n 0, 1) := by decide +kernel
theorem dk_Nm_says_69 : decode mi_Nm_says.2.1 69 = .ok (.getfield 18, 3) := by decide +kernel
theorem dk_Nm_says_72 : decode mi_Nm_says.2.1 72 = .ok (.iload_n 3, 1) := by decide +kernel
theorem dk_Nm_says_73 : decode mi_Nm_says.2.1 73 = .ok (.invokevirtual 134, 3) := by decide +kernel
theorem dk_Nm_says_76 : decode mi_Nm_says.2.1 76 = .ok (.iload_n 2, 1) := by decide +kernel
theorem dk_Nm_says_77 : decode mi_Nm_says.2.1 77 = .ok (.invokestatic 137, 3) := by decide +kernel
theorem dk_Nm_says_80 : decode mi_Nm_says.2.1 80 = .ok (.ifCond .ne 10, 3) := by decide +kernel
theorem dk_Nm_says_83 : decode mi_Nm_says.2.1 83 = .ok (.aload_n 0, 1) := by decide +kernel
theorem dk_Nm_says_84 : decode mi_Nm_says.2.1 84 = .ok (.bipush (-2), 2) := by decide +kernel
theorem dk_Nm_says_86 : decode mi_Nm_says.2.1 86 = .ok (.invokevirtual 73, 3) := by decide +kernel
theorem dk_Nm_says_89 : decode mi_Nm_says.2.1 89 = .ok (.ireturn, 1) := by decide +kernel
theorem dk_Nm_says_90 : decode mi_Nm_says.2.1 90 = .ok (.aload_n 0, 1) := by decide +kernel
theorem dk_Nm_says_91 : decode mi_Nm_says.2.1 91 = .ok (.getfield 18, 3) := by decide +kernel
theorem dk_Nm_says_94 : decode mi_Nm_says.2.1 94 = .ok (.iload_n 3, 1) := by decide +kernel
theorem dk_Nm_says_95 : decode mi_Nm_says.2.1 95 = .ok (.iload_n 2, 1) := by decide +kernel
theorem dk_Nm_says_96 : decode mi_Nm_says.2.1 96 = .ok (.invokevirtual 140, 3) := by decide +kernel
theorem dk_Nm_says_99 : decode mi_Nm_says.2.1 99 = .ok (.ireturn, 1) := by decide +kernel
def Nm_says (p1 : Int32) (p2 : Int32) (σ : nm_St) : Option (Int32 × nm_St) :=
  ((Nm_isShelf p1 σ).bind fun q1 =>
  (if q1.1 = 0 then
    ((Nm_refuse (-1 : Int32) q1.2).bind fun q3 =>
    some (q3.1, q3.2))
  else
    ((Nm_isKind p2 q1.2).bind fun q4 =>
    (if q4.1 = 0 then
      ((Nm_refuse (-1 : Int32) q4.2).bind fun q21 =>
      some (q21.1, q21.2))
    else
      (nm_g (nm_in p1 8) (
      ((Sh_isRow (nm_sf p1) q4.2).bind fun q7 =>
      (if q7.1 = 0 then
        (nm_g (nm_in p1 8) (
        ((Sh_isEmpty (nm_sf p1) q7.2).bind fun q10 =>
        (if q10.1 = 0 then
          (nm_g (nm_in p1 8) (
          ((Sh_whose (nm_sf p1) q10.2).bind fun q13 =>
          ((Is_kindOf 2 q13.1 q13.2).bind fun q14 =>
          ((Nm_isUnder q14.1 p2 q14.2).bind fun q15 =>
          (if q15.1 = 0 then
            ((Nm_refuse (-2 : Int32) q15.2).bind fun q18 =>
            some (q18.1, q18.2))
          else
            ((Is_wordOf 2 q13.1 p2 q15.2).bind fun q17 =>
            some (q17.1, q17.2))))))))
        else
          ((Nm_refuse (-3 : Int32) q10.2).bind fun q19 =>
          some (q19.1, q19.2))))))
      else
        ((Nm_refuse (-2 : Int32) q7.2).bind fun q20 =>
        some (q20.1, q20.2))))))))))
set_option maxRecDepth 100000 in
set_option maxHeartbeats 4000000 in
theorem ct_Nm_says (X : nm_X) (p1 : Int32) (p2 : Int32) (σ : nm_St) : Ct X mi_Nm_says 4 nm_wI [.ref 0, .int p1, .int p2] σ (Nm_says p1 p2 σ) := by
  refine Ct.of (by decide +kernel) rfl (fun F hF0 => ?_)
  unfold Nm_says
  refine rn_iload_n (pc := 0) 1 dk_Nm_says_0 rfl rfl ?_
  refine cl_Nm_69 (pc := 1) (As := [.int p1]) (st := []) rfl (ct_Nm_isShelf X p1 σ) (Nat.le_trans (Nat.le_of_ble_eq_true rfl) hF0) rfl rfl (Nat.le_of_ble_eq_true rfl) dk_Nm_says_1 (fun q1 => ?_)
  refine rn_if_eq (pc := 4) 14 dk_Nm_says_4 (by decide) (fun c2 => ?_) (fun c2 => ?_)
  · refine rn_aload_n (pc := 14) 0 dk_Nm_says_14 rfl rfl rfl ?_
    refine rn_iconst (pc := 15) (-1 : Int32) dk_Nm_says_15 cn_i_m1 ?_
    refine cl_Nm_73 (pc := 16) (As := [.int (-1 : Int32)]) (st := []) rfl (ct_Nm_refuse X (-1 : Int32) q1.2) (Nat.le_trans (Nat.le_of_ble_eq_true rfl) hF0) rfl rfl (Nat.le_of_ble_eq_true rfl) dk_Nm_says_16 (fun q3 => ?_)
    exact rn_iret rfl dk_Nm_says_19
  · refine rn_iload_n (pc := 7) 2 dk_Nm_says_7 rfl rfl ?_
    refine cl_Nm_121 (pc := 8) (As := [.int p2]) (st := []) rfl (ct_Nm_isKind X p2 q1.2) (Nat.le_trans (Nat.le_of_ble_eq_true rfl) hF0) rfl rfl (Nat.le_of_ble_eq_true rfl) dk_Nm_says_8 (fun q4 => ?_)
    refine rn_if_ne (pc := 11) 20 dk_Nm_says_11 (by decide) (fun c5 => ?_) (fun c5 => ?_)
    · refine rn_aload_n (pc := 20) 0 dk_Nm_says_20 rfl rfl rfl ?_
      refine gf_Nm_11 (pc := 21) rfl dk_Nm_says_21 ?_
      refine rn_iload_n (pc := 24) 1 dk_Nm_says_24 rfl rfl ?_
      refine rn_aaload (pc := 25) dk_Nm_says_25 (fun g6 => ?_)
      refine cl_Nm_124 (pc := 26) (As := []) (st := []) (nm_sf p1) (nm_sf_isH g6) rfl (ct_Sh_isRow X (nm_sf p1) (nm_sf_isH g6) q4.2) (Nat.le_trans (Nat.le_of_ble_eq_true rfl) hF0) rfl rfl (Nat.le_of_ble_eq_true rfl) dk_Nm_says_26 (fun q7 => ?_)
      refine rn_if_eq (pc := 29) 39 dk_Nm_says_29 (by decide) (fun c8 => ?_) (fun c8 => ?_)
      · refine rn_aload_n (pc := 39) 0 dk_Nm_says_39 rfl rfl rfl ?_
        refine gf_Nm_11 (pc := 40) rfl dk_Nm_says_40 ?_
        refine rn_iload_n (pc := 43) 1 dk_Nm_says_43 rfl rfl ?_
        refine rn_aaload (pc := 44) dk_Nm_says_44 (fun g9 => ?_)
        refine cl_Nm_128 (pc := 45) (As := []) (st := []) (nm_sf p1) (nm_sf_isH g9) rfl (ct_Sh_isEmpty X (nm_sf p1) (nm_sf_isH g9) q7.2) (Nat.le_trans (Nat.le_of_ble_eq_true rfl) hF0) rfl rfl (Nat.le_of_ble_eq_true rfl) dk_Nm_says_45 (fun q10 => ?_)
        refine rn_if_eq (pc := 48) 58 dk_Nm_says_48 (by decide) (fun c11 => ?_) (fun c11 => ?_)
        · refine rn_aload_n (pc := 58) 0 dk_Nm_says_58 rfl rfl rfl ?_
          refine gf_Nm_11 (pc := 59) rfl dk_Nm_says_59 ?_
          refine rn_iload_n (pc := 62) 1 dk_Nm_says_62 rfl rfl ?_
          refine rn_aaload (pc := 63) dk_Nm_says_63 (fun g12 => ?_)
          refine cl_Nm_131 (pc := 64) (As := []) (st := []) (nm_sf p1) (nm_sf_isH g12) rfl (ct_Sh_whose X (nm_sf p1) (nm_sf_isH g12) q10.2) (Nat.le_trans (Nat.le_of_ble_eq_true rfl) hF0) rfl rfl (Nat.le_of_ble_eq_true rfl) dk_Nm_says_64 (fun q13 => ?_)
          refine rn_istore_n (pc := 67) 3 dk_Nm_says_67 rfl rfl rfl ?_
          refine rn_aload_n (pc := 68) 0 dk_Nm_says_68 rfl rfl rfl ?_
          refine gf_Nm_18 (pc := 69) rfl dk_Nm_says_69 ?_
          refine rn_iload_n (pc := 72) 3 dk_Nm_says_72 rfl rfl ?_
          refine cl_Nm_134 (pc := 73) (As := [.int q13.1]) (st := []) 2 rfl rfl (ct_Is_kindOf X 2 rfl q13.1 q13.2) (Nat.le_trans (Nat.le_of_ble_eq_true rfl) hF0) rfl rfl (Nat.le_of_ble_eq_true rfl) dk_Nm_says_73 (fun q14 => ?_)
          refine rn_iload_n (pc := 76) 2 dk_Nm_says_76 rfl rfl ?_
          refine cl_Nm_137 (pc := 77) (As := [.int q14.1, .int p2]) (st := []) rfl (ct_Nm_isUnder X q14.1 p2 q14.2) (Nat.le_trans (Nat.le_of_ble_eq_true rfl) hF0) rfl rfl (Nat.le_of_ble_eq_true rfl) dk_Nm_says_77 (fun q15 => ?_)
          refine rn_if_ne (pc := 80) 90 dk_Nm_says_80 (by decide) (fun c16 => ?_) (fun c16 => ?_)
          · refine rn_aload_n (pc := 90) 0 dk_Nm_says_90 rfl rfl rfl ?_
            refine gf_Nm_18 (pc := 91) rfl dk_Nm_says_91 ?_
            refine rn_iload_n (pc := 94) 3 dk_Nm_says_94 rfl rfl ?_
            refine rn_iload_n (pc := 95) 2 dk_Nm_says_95 rfl rfl ?_
            refine cl_Nm_140 (pc := 96) (As := [.int q13.1, .int p2]) (st := []) 2 rfl rfl (ct_Is_wordOf X 2 rfl q13.1 p2 q15.2) (Nat.le_trans (Nat.le_of_ble_eq_true rfl) hF0) rfl rfl (Nat.le_of_ble_eq_true rfl) dk_Nm_says_96 (fun q17 => ?_)
            exact rn_iret rfl dk_Nm_says_99
          · refine rn_aload_n (pc := 83) 0 dk_Nm_says_83 rfl rfl rfl ?_
            refine rn_bipush (pc := 84) (-2 : Int32) dk_Nm_says_84 cn_b_m2 ?_
            refine cl_Nm_73 (pc := 86) (As := [.int (-2 : Int32)]) (st := []) rfl (ct_Nm_refuse X (-2 : Int32) q15.2) (Nat.le_trans (Nat.le_of_ble_eq_true rfl) hF0) rfl rfl (Nat.le_of_ble_eq_true rfl) dk_Nm_says_86 (fun q18 => ?_)
            exact rn_iret rfl dk_Nm_says_89
        · refine rn_aload_n (pc := 51) 0 dk_Nm_says_51 rfl rfl rfl ?_
          refine rn_bipush (pc := 52) (-3 : Int32) dk_Nm_says_52 cn_b_m3 ?_
          refine cl_Nm_73 (pc := 54) (As := [.int (-3 : Int32)]) (st := []) rfl (ct_Nm_refuse X (-3 : Int32) q10.2) (Nat.le_trans (Nat.le_of_ble_eq_true rfl) hF0) rfl rfl (Nat.le_of_ble_eq_true rfl) dk_Nm_says_54 (fun q19 => ?_)
          exact rn_iret rfl dk_Nm_says_57
      · refine rn_aload_n (pc := 32) 0 dk_Nm_says_32 rfl rfl rfl ?_
        refine rn_bipush (pc := 33) (-2 : Int32) dk_Nm_says_33 cn_b_m2 ?_
        refine cl_Nm_73 (pc := 35) (As := [.int (-2 : Int32)]) (st := []) rfl (ct_Nm_refuse X (-2 : Int32) q7.2) (Nat.le_trans (Nat.le_of_ble_eq_true rfl) hF0) rfl rfl (Nat.le_of_ble_eq_true rfl) dk_Nm_says_35 (fun q20 => ?_)
        exact rn_iret rfl dk_Nm_says_38
    · refine rn_aload_n (pc := 14) 0 dk_Nm_says_14 rfl rfl rfl ?_
      refine rn_iconst (pc := 15) (-1 : Int32) dk_Nm_says_15 cn_i_m1 ?_
      refine cl_Nm_73 (pc := 16) (As := [.int (-1 : Int32)]) (st := []) rfl (ct_Nm_refuse X (-1 : Int32) q4.2) (Nat.le_trans (Nat.le_of_ble_eq_true rfl) hF0) rfl rfl (Nat.le_of_ble_eq_true rfl) dk_Nm_says_16 (fun q21 => ?_)
      exact rn_iret rfl dk_Nm_says_19
theorem dk_Nm_isWithin_0 : decode mi_Nm_isWithin.2.1 0 = .ok (.iload_n 0, 1) := by decide +kernel
theorem dk_Nm_isWithin_1 : decode mi_Nm_isWithin.2.1 1 = .ok (.iload_n 1, 1) := by decide +kernel
theorem dk_Nm_isWithin_2 : decode mi_Nm_isWithin.2.1 2 = .ok (.if_icmp .lt 12, 3) := by decide +kernel
theorem dk_Nm_isWithin_5 : decode mi_Nm_isWithin.2.1 5 = .ok (.iload_n 0, 1) := by decide +kernel
theorem dk_Nm_isWithin_6 : decode mi_Nm_isWithin.2.1 6 = .ok (.iload_n 2, 1) := by decide +kernel
theorem dk_Nm_isWithin_7 : decode mi_Nm_isWithin.2.1 7 = .ok (.if_icmp .gt 7, 3) := by decide +kernel
theorem dk_Nm_isWithin_10 : decode mi_Nm_isWithin.2.1 10 = .ok (.iconst 1, 1) := by decide +kernel
theorem dk_Nm_isWithin_11 : decode mi_Nm_isWithin.2.1 11 = .ok (.goto 4, 3) := by decide +kernel
theorem dk_Nm_isWithin_14 : decode mi_Nm_isWithin.2.1 14 = .ok (.iconst 0, 1) := by decide +kernel
theorem dk_Nm_isWithin_15 : decode mi_Nm_isWithin.2.1 15 = .ok (.ireturn, 1) := by decide +kernel
def Nm_isWithin (p0 : Int32) (p1 : Int32) (p2 : Int32) (σ : nm_St) : Option (Int32 × nm_St) :=
  (if p0 < p1 then
    some ((0 : Int32), σ)
  else
    (if p2 < p0 then
      some ((0 : Int32), σ)
    else
      some ((1 : Int32), σ)))
set_option maxRecDepth 100000 in
set_option maxHeartbeats 4000000 in
theorem ct_Nm_isWithin (X : nm_X) (p0 : Int32) (p1 : Int32) (p2 : Int32) (σ : nm_St) : Ct X mi_Nm_isWithin 0 nm_wI [.int p0, .int p1, .int p2] σ (Nm_isWithin p0 p1 p2 σ) := by
  refine Ct.of (by decide +kernel) rfl (fun F hF0 => ?_)
  unfold Nm_isWithin
  refine rn_iload_n (pc := 0) 0 dk_Nm_isWithin_0 rfl rfl ?_
  refine rn_iload_n (pc := 1) 1 dk_Nm_isWithin_1 rfl rfl ?_
  refine rn_icmp_lt (pc := 2) 14 dk_Nm_isWithin_2 (by decide) (fun c1 => ?_) (fun c1 => ?_)
  · refine rn_iconst (pc := 14) (0 : Int32) dk_Nm_isWithin_14 cn_i_0 ?_
    exact rn_zret (ty := .boolean) rfl rfl dk_Nm_isWithin_15
  · refine rn_iload_n (pc := 5) 0 dk_Nm_isWithin_5 rfl rfl ?_
    refine rn_iload_n (pc := 6) 2 dk_Nm_isWithin_6 rfl rfl ?_
    refine rn_icmp_gt (pc := 7) 14 dk_Nm_isWithin_7 (by decide) (fun c2 => ?_) (fun c2 => ?_)
    · refine rn_iconst (pc := 14) (0 : Int32) dk_Nm_isWithin_14 cn_i_0 ?_
      exact rn_zret (ty := .boolean) rfl rfl dk_Nm_isWithin_15
    · refine rn_iconst (pc := 10) (1 : Int32) dk_Nm_isWithin_10 cn_i_1 ?_
      refine rn_goto (pc := 11) 15 dk_Nm_isWithin_11 (by decide) ?_
      exact rn_zret (ty := .boolean) rfl rfl dk_Nm_isWithin_15
theorem dk_Is_addMaker_0 : decode mi_Is_addMaker.2.1 0 = .ok (.aload_n 0, 1) := by decide +kernel
theorem dk_Is_addMaker_1 : decode mi_Is_addMaker.2.1 1 = .ok (.getfield 30, 3) := by decide +kernel
theorem dk_Is_addMaker_4 : decode mi_Is_addMaker.2.1 4 = .ok (.istore 4, 2) := by decide +kernel
theorem dk_Is_addMaker_6 : decode mi_Is_addMaker.2.1 6 = .ok (.iload 4, 2) := by decide +kernel
theorem dk_Is_addMaker_8 : decode mi_Is_addMaker.2.1 8 = .ok (.ifCond .lt 10, 3) := by decide +kernel
theorem dk_Is_addMaker_11 : decode mi_Is_addMaker.2.1 11 = .ok (.iload 4, 2) := by decide +kernel
theorem dk_Is_addMaker_13 : decode mi_Is_addMaker.2.1 13 = .ok (.bipush 8, 2) := by decide +kernel
theorem dk_Is_addMaker_15 : decode mi_Is_addMaker.2.1 15 = .ok (.if_icmp .lt 5, 3) := by decide +kernel
theorem dk_Is_addMaker_18 : decode mi_Is_addMaker.2.1 18 = .ok (.iconst (-1), 1) := by decide +kernel
theorem dk_Is_addMaker_19 : decode mi_Is_addMaker.2.1 19 = .ok (.ireturn, 1) := by decide +kernel
theorem dk_Is_addMaker_20 : decode mi_Is_addMaker.2.1 20 = .ok (.aload_n 0, 1) := by decide +kernel
theorem dk_Is_addMaker_21 : decode mi_Is_addMaker.2.1 21 = .ok (.getfield 9, 3) := by decide +kernel
theorem dk_Is_addMaker_24 : decode mi_Is_addMaker.2.1 24 = .ok (.iload 4, 2) := by decide +kernel
theorem dk_Is_addMaker_26 : decode mi_Is_addMaker.2.1 26 = .ok (.iload_n 1, 1) := by decide +kernel
theorem dk_Is_addMaker_27 : decode mi_Is_addMaker.2.1 27 = .ok (.iastore, 1) := by decide +kernel
theorem dk_Is_addMaker_28 : decode mi_Is_addMaker.2.1 28 = .ok (.aload_n 0, 1) := by decide +kernel
theorem dk_Is_addMaker_29 : decode mi_Is_addMaker.2.1 29 = .ok (.getfield 15, 3) := by decide +kernel
theorem dk_Is_addMaker_32 : decode mi_Is_addMaker.2.1 32 = .ok (.iload 4, 2) := by decide +kernel
theorem dk_Is_addMaker_34 : decode mi_Is_addMaker.2.1 34 = .ok (.iload_n 2, 1) := by decide +kernel
theorem dk_Is_addMaker_35 : decode mi_Is_addMaker.2.1 35 = .ok (.iastore, 1) := by decide +kernel
theorem dk_Is_addMaker_36 : decode mi_Is_addMaker.2.1 36 = .ok (.aload_n 0, 1) := by decide +kernel
theorem dk_Is_addMaker_37 : decode mi_Is_addMaker.2.1 37 = .ok (.getfield 18, 3) := by decide +kernel
theorem dk_Is_addMaker_40 : decode mi_Is_addMaker.2.1 40 = .ok (.iload 4, 2) := by decide +kernel
theorem dk_Is_addMaker_42 : decode mi_Is_addMaker.2.1 42 = .ok (.iload_n 3, 1) := by decide +kernel
theorem dk_Is_addMaker_43 : decode mi_Is_addMaker.2.1 43 = .ok (.iastore, 1) := by decide +kernel
theorem dk_Is_addMaker_44 : decode mi_Is_addMaker.2.1 44 = .ok (.aload_n 0, 1) := by decide +kernel
theorem dk_Is_addMaker_45 : decode mi_Is_addMaker.2.1 45 = .ok (.getfield 21, 3) := by decide +kernel
theorem dk_Is_addMaker_48 : decode mi_Is_addMaker.2.1 48 = .ok (.iload 4, 2) := by decide +kernel
theorem dk_Is_addMaker_50 : decode mi_Is_addMaker.2.1 50 = .ok (.iconst 0, 1) := by decide +kernel
theorem dk_Is_addMaker_51 : decode mi_Is_addMaker.2.1 51 = .ok (.iastore, 1) := by decide +kernel
theorem dk_Is_addMaker_52 : decode mi_Is_addMaker.2.1 52 = .ok (.aload_n 0, 1) := by decide +kernel
theorem dk_Is_addMaker_53 : decode mi_Is_addMaker.2.1 53 = .ok (.getfield 24, 3) := by decide +kernel
theorem dk_Is_addMaker_56 : decode mi_Is_addMaker.2.1 56 = .ok (.iload 4, 2) := by decide +kernel
theorem dk_Is_addMaker_58 : decode mi_Is_addMaker.2.1 58 = .ok (.iconst 0, 1) := by decide +kernel
theorem dk_Is_addMaker_59 : decode mi_Is_addMaker.2.1 59 = .ok (.iastore, 1) := by decide +kernel
theorem dk_Is_addMaker_60 : decode mi_Is_addMaker.2.1 60 = .ok (.aload_n 0, 1) := by decide +kernel
theorem dk_Is_addMaker_61 : decode mi_Is_addMaker.2.1 61 = .ok (.getfield 27, 3) := by decide +kernel
theorem dk_Is_addMaker_64 : decode mi_Is_addMaker.2.1 64 = .ok (.iload 4, 2) := by decide +kernel
theorem dk_Is_addMaker_66 : decode mi_Is_addMaker.2.1 66 = .ok (.iconst 0, 1) := by decide +kernel
theorem dk_Is_addMaker_67 : decode mi_Is_addMaker.2.1 67 = .ok (.iastore, 1) := by decide +kernel
theorem dk_Is_addMaker_68 : decode mi_Is_addMaker.2.1 68 = .ok (.aload_n 0, 1) := by decide +kernel
theorem dk_Is_addMaker_69 : decode mi_Is_addMaker.2.1 69 = .ok (.iload 4, 2) := by decide +kernel
theorem dk_Is_addMaker_71 : decode mi_Is_addMaker.2.1 71 = .ok (.iconst 1, 1) := by decide +kernel
theorem dk_Is_addMaker_72 : decode mi_Is_addMaker.2.1 72 = .ok (.iadd, 1) := by decide +kernel
theorem dk_Is_addMaker_73 : decode mi_Is_addMaker.2.1 73 = .ok (.putfield 30, 3) := by decide +kernel
theorem dk_Is_addMaker_76 : decode mi_Is_addMaker.2.1 76 = .ok (.iload 4, 2) := by decide +kernel
theorem dk_Is_addMaker_78 : decode mi_Is_addMaker.2.1 78 = .ok (.ireturn, 1) := by decide +kernel
def Is_addMaker (o : Nat) (p1 : Int32) (p2 : Int32) (p3 : Int32) (σ : nm_St) : Option (Int32 × nm_St) :=
  (if (σ.1 o 6) < 0 then
    some ((-1 : Int32), σ)
  else
    (if (σ.1 o 6) < (8 : Int32) then
      (nm_g (nm_in (σ.1 o 6) 8) (
      (nm_let (nm_pI σ (o + 1) (σ.1 o 6).toNatClampNeg p1) fun s4 =>
      (nm_g (nm_in (σ.1 o 6) 8) (
      (nm_let (nm_pI s4 (o + 2) (σ.1 o 6).toNatClampNeg p2) fun s6 =>
      (nm_g (nm_in (σ.1 o 6) 8) (
      (nm_let (nm_pI s6 (o + 3) (σ.1 o 6).toNatClampNeg p3) fun s8 =>
      (nm_g (nm_in (σ.1 o 6) 8) (
      (nm_let (nm_pI s8 (o + 4) (σ.1 o 6).toNatClampNeg (0 : Int32)) fun s10 =>
      (nm_g (nm_in (σ.1 o 6) 8) (
      (nm_let (nm_pI s10 (o + 5) (σ.1 o 6).toNatClampNeg (0 : Int32)) fun s12 =>
      (nm_g (nm_in (σ.1 o 6) 8) (
      (nm_let (nm_pI s12 (o + 6) (σ.1 o 6).toNatClampNeg (0 : Int32)) fun s14 =>
      (nm_let (nm_pI s14 o 6 ((σ.1 o 6) + (1 : Int32))) fun s15 =>
      some ((σ.1 o 6), s15))))))))))))))))))))
    else
      some ((-1 : Int32), σ)))
set_option maxRecDepth 100000 in
set_option maxHeartbeats 4000000 in
theorem ct_Is_addMaker (X : nm_X) (o : Nat) (ho : nm_isl o = true) (p1 : Int32) (p2 : Int32) (p3 : Int32) (σ : nm_St) : Ct X mi_Is_addMaker 0 nm_wI [.ref o, .int p1, .int p2, .int p3] σ (Is_addMaker o p1 p2 p3 σ) := by
  refine Ct.of (by decide +kernel) rfl (fun F hF0 => ?_)
  unfold Is_addMaker
  refine rn_aload_n (pc := 0) 0 dk_Is_addMaker_0 rfl rfl (nm_rok_isl ho) ?_
  refine gf_Is_30 (pc := 1) o ho rfl dk_Is_addMaker_1 ?_
  refine rn_istore (pc := 4) dk_Is_addMaker_4 rfl rfl ?_
  refine rn_iload (pc := 6) dk_Is_addMaker_6 rfl ?_
  refine rn_if_lt (pc := 8) 18 dk_Is_addMaker_8 (by decide) (fun c1 => ?_) (fun c1 => ?_)
  · refine rn_iconst (pc := 18) (-1 : Int32) dk_Is_addMaker_18 cn_i_m1 ?_
    exact rn_iret rfl dk_Is_addMaker_19
  · refine rn_iload (pc := 11) dk_Is_addMaker_11 rfl ?_
    refine rn_bipush (pc := 13) (8 : Int32) dk_Is_addMaker_13 cn_b_8 ?_
    refine rn_icmp_lt (pc := 15) 20 dk_Is_addMaker_15 (by decide) (fun c2 => ?_) (fun c2 => ?_)
    · refine rn_aload_n (pc := 20) 0 dk_Is_addMaker_20 rfl rfl (nm_rok_isl ho) ?_
      refine gf_Is_9 (pc := 21) o ho rfl dk_Is_addMaker_21 ?_
      refine rn_iload (pc := 24) dk_Is_addMaker_24 rfl ?_
      refine rn_iload_n (pc := 26) 1 dk_Is_addMaker_26 rfl rfl ?_
      refine rn_iastore (pc := 27) (nm_i1 ho) dk_Is_addMaker_27 (fun g3 => ?_)
      refine rn_lets (fun s4 => ?_)
      refine rn_aload_n (pc := 28) 0 dk_Is_addMaker_28 rfl rfl (nm_rok_isl ho) ?_
      refine gf_Is_15 (pc := 29) o ho rfl dk_Is_addMaker_29 ?_
      refine rn_iload (pc := 32) dk_Is_addMaker_32 rfl ?_
      refine rn_iload_n (pc := 34) 2 dk_Is_addMaker_34 rfl rfl ?_
      refine rn_iastore (pc := 35) (nm_i2 ho) dk_Is_addMaker_35 (fun g5 => ?_)
      refine rn_lets (fun s6 => ?_)
      refine rn_aload_n (pc := 36) 0 dk_Is_addMaker_36 rfl rfl (nm_rok_isl ho) ?_
      refine gf_Is_18 (pc := 37) o ho rfl dk_Is_addMaker_37 ?_
      refine rn_iload (pc := 40) dk_Is_addMaker_40 rfl ?_
      refine rn_iload_n (pc := 42) 3 dk_Is_addMaker_42 rfl rfl ?_
      refine rn_iastore (pc := 43) (nm_i3 ho) dk_Is_addMaker_43 (fun g7 => ?_)
      refine rn_lets (fun s8 => ?_)
      refine rn_aload_n (pc := 44) 0 dk_Is_addMaker_44 rfl rfl (nm_rok_isl ho) ?_
      refine gf_Is_21 (pc := 45) o ho rfl dk_Is_addMaker_45 ?_
      refine rn_iload (pc := 48) dk_Is_addMaker_48 rfl ?_
      refine rn_iconst (pc := 50) (0 : Int32) dk_Is_addMaker_50 cn_i_0 ?_
      refine rn_iastore (pc := 51) (nm_i4 ho) dk_Is_addMaker_51 (fun g9 => ?_)
      refine rn_lets (fun s10 => ?_)
      refine rn_aload_n (pc := 52) 0 dk_Is_addMaker_52 rfl rfl (nm_rok_isl ho) ?_
      refine gf_Is_24 (pc := 53) o ho rfl dk_Is_addMaker_53 ?_
      refine rn_iload (pc := 56) dk_Is_addMaker_56 rfl ?_
      refine rn_iconst (pc := 58) (0 : Int32) dk_Is_addMaker_58 cn_i_0 ?_
      refine rn_iastore (pc := 59) (nm_i5 ho) dk_Is_addMaker_59 (fun g11 => ?_)
      refine rn_lets (fun s12 => ?_)
      refine rn_aload_n (pc := 60) 0 dk_Is_addMaker_60 rfl rfl (nm_rok_isl ho) ?_
      refine gf_Is_27 (pc := 61) o ho rfl dk_Is_addMaker_61 ?_
      refine rn_iload (pc := 64) dk_Is_addMaker_64 rfl ?_
      refine rn_iconst (pc := 66) (0 : Int32) dk_Is_addMaker_66 cn_i_0 ?_
      refine rn_iastore (pc := 67) (nm_i6 ho) dk_Is_addMaker_67 (fun g13 => ?_)
      refine rn_lets (fun s14 => ?_)
      refine rn_aload_n (pc := 68) 0 dk_Is_addMaker_68 rfl rfl (nm_rok_isl ho) ?_
      refine rn_iload (pc := 69) dk_Is_addMaker_69 rfl ?_
      refine rn_iconst (pc := 71) (1 : Int32) dk_Is_addMaker_71 cn_i_1 ?_
      refine rn_iadd (pc := 72) dk_Is_addMaker_72 ?_
      refine pf_Is_30 (pc := 73) o ho rfl dk_Is_addMaker_73 ?_
      refine rn_lets (fun s15 => ?_)
      refine rn_iload (pc := 76) dk_Is_addMaker_76 rfl ?_
      exact rn_iret rfl dk_Is_addMaker_78
    · refine rn_iconst (pc := 18) (-1 : Int32) dk_Is_addMaker_18 cn_i_m1 ?_
      exact rn_iret rfl dk_Is_addMaker_19
theorem dk_Is_isFull_0 : decode mi_Is_isFull.2.1 0 = .ok (.aload_n 0, 1) := by decide +kernel
theorem dk_Is_isFull_1 : decode mi_Is_isFull.2.1 1 = .ok (.getfield 30, 3) := by decide +kernel
theorem dk_Is_isFull_4 : decode mi_Is_isFull.2.1 4 = .ok (.bipush 8, 2) := by decide +kernel
theorem dk_Is_isFull_6 : decode mi_Is_isFull.2.1 6 = .ok (.if_icmp .lt 7, 3) := by decide +kernel
theorem dk_Is_isFull_9 : decode mi_Is_isFull.2.1 9 = .ok (.iconst 1, 1) := by decide +kernel
theorem dk_Is_isFull_10 : decode mi_Is_isFull.2.1 10 = .ok (.goto 4, 3) := by decide +kernel
theorem dk_Is_isFull_13 : decode mi_Is_isFull.2.1 13 = .ok (.iconst 0, 1) := by decide +kernel
theorem dk_Is_isFull_14 : decode mi_Is_isFull.2.1 14 = .ok (.ireturn, 1) := by decide +kernel
def Is_isFull (o : Nat) (σ : nm_St) : Option (Int32 × nm_St) :=
  (if (σ.1 o 6) < (8 : Int32) then
    some ((0 : Int32), σ)
  else
    some ((1 : Int32), σ))
set_option maxRecDepth 100000 in
set_option maxHeartbeats 4000000 in
theorem ct_Is_isFull (X : nm_X) (o : Nat) (ho : nm_isl o = true) (σ : nm_St) : Ct X mi_Is_isFull 0 nm_wI [.ref o] σ (Is_isFull o σ) := by
  refine Ct.of (by decide +kernel) rfl (fun F hF0 => ?_)
  unfold Is_isFull
  refine rn_aload_n (pc := 0) 0 dk_Is_isFull_0 rfl rfl (nm_rok_isl ho) ?_
  refine gf_Is_30 (pc := 1) o ho rfl dk_Is_isFull_1 ?_
  refine rn_bipush (pc := 4) (8 : Int32) dk_Is_isFull_4 cn_b_8 ?_
  refine rn_icmp_lt (pc := 6) 13 dk_Is_isFull_6 (by decide) (fun c1 => ?_) (fun c1 => ?_)
  · refine rn_iconst (pc := 13) (0 : Int32) dk_Is_isFull_13 cn_i_0 ?_
    exact rn_zret (ty := .boolean) rfl rfl dk_Is_isFull_14
  · refine rn_iconst (pc := 9) (1 : Int32) dk_Is_isFull_9 cn_i_1 ?_
    refine rn_goto (pc := 10) 14 dk_Is_isFull_10 (by decide) ?_
    exact rn_zret (ty := .boolean) rfl rfl dk_Is_isFull_14
theorem dk_Nm_maker_0 : decode mi_Nm_maker.2.1 0 = .ok (.iload_n 1, 1) := by decide +kernel
theorem dk_Nm_maker_1 : decode mi_Nm_maker.2.1 1 = .ok (.invokestatic 121, 3) := by decide +kernel
theorem dk_Nm_maker_4 : decode mi_Nm_maker.2.1 4 = .ok (.ifCond .ne 9, 3) := by decide +kernel
theorem dk_Nm_maker_7 : decode mi_Nm_maker.2.1 7 = .ok (.aload_n 0, 1) := by decide +kernel
theorem dk_Nm_maker_8 : decode mi_Nm_maker.2.1 8 = .ok (.iconst (-1), 1) := by decide +kernel
theorem dk_Nm_maker_9 : decode mi_Nm_maker.2.1 9 = .ok (.invokevirtual 73, 3) := by decide +kernel
theorem dk_Nm_maker_12 : decode mi_Nm_maker.2.1 12 = .ok (.ireturn, 1) := by decide +kernel
theorem dk_Nm_maker_13 : decode mi_Nm_maker.2.1 13 = .ok (.iload_n 2, 1) := by decide +kernel
theorem dk_Nm_maker_14 : decode mi_Nm_maker.2.1 14 = .ok (.iconst 0, 1) := by decide +kernel
theorem dk_Nm_maker_15 : decode mi_Nm_maker.2.1 15 = .ok (.bipush 9, 2) := by decide +kernel
theorem dk_Nm_maker_17 : decode mi_Nm_maker.2.1 17 = .ok (.invokestatic 144, 3) := by decide +kernel
theorem dk_Nm_maker_20 : decode mi_Nm_maker.2.1 20 = .ok (.ifCond .eq 13, 3) := by decide +kernel
theorem dk_Nm_maker_23 : decode mi_Nm_maker.2.1 23 = .ok (.iload_n 3, 1) := by decide +kernel
theorem dk_Nm_maker_24 : decode mi_Nm_maker.2.1 24 = .ok (.iconst 0, 1) := by decide +kernel
theorem dk_Nm_maker_25 : decode mi_Nm_maker.2.1 25 = .ok (.bipush 99, 2) := by decide +kernel
theorem dk_Nm_maker_27 : decode mi_Nm_maker.2.1 27 = .ok (.invokestatic 144, 3) := by decide +kernel
theorem dk_Nm_maker_30 : decode mi_Nm_maker.2.1 30 = .ok (.ifCond .ne 10, 3) := by decide +kernel
theorem dk_Nm_maker_33 : decode mi_Nm_maker.2.1 33 = .ok (.aload_n 0, 1) := by decide +kernel
theorem dk_Nm_maker_34 : decode mi_Nm_maker.2.1 34 = .ok (.bipush (-6), 2) := by decide +kernel
theorem dk_Nm_maker_36 : decode mi_Nm_maker.2.1 36 = .ok (.invokevirtual 73, 3) := by decide +kernel
theorem dk_Nm_maker_39 : decode mi_Nm_maker.2.1 39 = .ok (.ireturn, 1) := by decide +kernel
theorem dk_Nm_maker_40 : decode mi_Nm_maker.2.1 40 = .ok (.aload_n 0, 1) := by decide +kernel
theorem dk_Nm_maker_41 : decode mi_Nm_maker.2.1 41 = .ok (.getfield 18, 3) := by decide +kernel
theorem dk_Nm_maker_44 : decode mi_Nm_maker.2.1 44 = .ok (.invokevirtual 148, 3) := by decide +kernel
theorem dk_Nm_maker_47 : decode mi_Nm_maker.2.1 47 = .ok (.ifCond .eq 10, 3) := by decide +kernel
theorem dk_Nm_maker_50 : decode mi_Nm_maker.2.1 50 = .ok (.aload_n 0, 1) := by decide +kernel
theorem dk_Nm_maker_51 : decode mi_Nm_maker.2.1 51 = .ok (.bipush (-7), 2) := by decide +kernel
theorem dk_Nm_maker_53 : decode mi_Nm_maker.2.1 53 = .ok (.invokevirtual 73, 3) := by decide +kernel
theorem dk_Nm_maker_56 : decode mi_Nm_maker.2.1 56 = .ok (.ireturn, 1) := by decide +kernel
theorem dk_Nm_maker_57 : decode mi_Nm_maker.2.1 57 = .ok (.aload_n 0, 1) := by decide +kernel
theorem dk_Nm_maker_58 : decode mi_Nm_maker.2.1 58 = .ok (.getfield 18, 3) := by decide +kernel
theorem dk_Nm_maker_61 : decode mi_Nm_maker.2.1 61 = .ok (.iload_n 1, 1) := by decide +kernel
theorem dk_Nm_maker_62 : decode mi_Nm_maker.2.1 62 = .ok (.iload_n 2, 1) := by decide +kernel
theorem dk_Nm_maker_63 : decode mi_Nm_maker.2.1 63 = .ok (.iload_n 3, 1) := by decide +kernel
theorem dk_Nm_maker_64 : decode mi_Nm_maker.2.1 64 = .ok (.invokevirtual 151, 3) := by decide +kernel
theorem dk_Nm_maker_67 : decode mi_Nm_maker.2.1 67 = .ok (.ireturn, 1) := by decide +kernel
def Nm_maker (p1 : Int32) (p2 : Int32) (p3 : Int32) (σ : nm_St) : Option (Int32 × nm_St) :=
  ((Nm_isKind p1 σ).bind fun q1 =>
  (if q1.1 = 0 then
    ((Nm_refuse (-1 : Int32) q1.2).bind fun q13 =>
    some (q13.1, q13.2))
  else
    ((Nm_isWithin p2 (0 : Int32) (9 : Int32) q1.2).bind fun q3 =>
    (if q3.1 = 0 then
      ((Nm_refuse (-6 : Int32) q3.2).bind fun q5 =>
      some (q5.1, q5.2))
    else
      ((Nm_isWithin p3 (0 : Int32) (99 : Int32) q3.2).bind fun q6 =>
      (if q6.1 = 0 then
        ((Nm_refuse (-6 : Int32) q6.2).bind fun q12 =>
        some (q12.1, q12.2))
      else
        ((Is_isFull 2 q6.2).bind fun q8 =>
        (if q8.1 = 0 then
          ((Is_addMaker 2 p1 p2 p3 q8.2).bind fun q10 =>
          some (q10.1, q10.2))
        else
          ((Nm_refuse (-7 : Int32) q8.2).bind fun q11 =>
          some (q11.1, q11.2))))))))))
set_option maxRecDepth 100000 in
set_option maxHeartbeats 4000000 in
theorem ct_Nm_maker (X : nm_X) (p1 : Int32) (p2 : Int32) (p3 : Int32) (σ : nm_St) : Ct X mi_Nm_maker 1 nm_wI [.ref 0, .int p1, .int p2, .int p3] σ (Nm_maker p1 p2 p3 σ) := by
  refine Ct.of (by decide +kernel) rfl (fun F hF0 => ?_)
  unfold Nm_maker
  refine rn_iload_n (pc := 0) 1 dk_Nm_maker_0 rfl rfl ?_
  refine cl_Nm_121 (pc := 1) (As := [.int p1]) (st := []) rfl (ct_Nm_isKind X p1 σ) (Nat.le_trans (Nat.le_of_ble_eq_true rfl) hF0) rfl rfl (Nat.le_of_ble_eq_true rfl) dk_Nm_maker_1 (fun q1 => ?_)
  refine rn_if_ne (pc := 4) 13 dk_Nm_maker_4 (by decide) (fun c2 => ?_) (fun c2 => ?_)
  · refine rn_iload_n (pc := 13) 2 dk_Nm_maker_13 rfl rfl ?_
    refine rn_iconst (pc := 14) (0 : Int32) dk_Nm_maker_14 cn_i_0 ?_
    refine rn_bipush (pc := 15) (9 : Int32) dk_Nm_maker_15 cn_b_9 ?_
    refine cl_Nm_144 (pc := 17) (As := [.int p2, .int (0 : Int32), .int (9 : Int32)]) (st := []) rfl (ct_Nm_isWithin X p2 (0 : Int32) (9 : Int32) q1.2) (Nat.le_trans (Nat.le_of_ble_eq_true rfl) hF0) rfl rfl (Nat.le_of_ble_eq_true rfl) dk_Nm_maker_17 (fun q3 => ?_)
    refine rn_if_eq (pc := 20) 33 dk_Nm_maker_20 (by decide) (fun c4 => ?_) (fun c4 => ?_)
    · refine rn_aload_n (pc := 33) 0 dk_Nm_maker_33 rfl rfl rfl ?_
      refine rn_bipush (pc := 34) (-6 : Int32) dk_Nm_maker_34 cn_b_m6 ?_
      refine cl_Nm_73 (pc := 36) (As := [.int (-6 : Int32)]) (st := []) rfl (ct_Nm_refuse X (-6 : Int32) q3.2) (Nat.le_trans (Nat.le_of_ble_eq_true rfl) hF0) rfl rfl (Nat.le_of_ble_eq_true rfl) dk_Nm_maker_36 (fun q5 => ?_)
      exact rn_iret rfl dk_Nm_maker_39
    · refine rn_iload_n (pc := 23) 3 dk_Nm_maker_23 rfl rfl ?_
      refine rn_iconst (pc := 24) (0 : Int32) dk_Nm_maker_24 cn_i_0 ?_
      refine rn_bipush (pc := 25) (99 : Int32) dk_Nm_maker_25 cn_b_99 ?_
      refine cl_Nm_144 (pc := 27) (As := [.int p3, .int (0 : Int32), .int (99 : Int32)]) (st := []) rfl (ct_Nm_isWithin X p3 (0 : Int32) (99 : Int32) q3.2) (Nat.le_trans (Nat.le_of_ble_eq_true rfl) hF0) rfl rfl (Nat.le_of_ble_eq_true rfl) dk_Nm_maker_27 (fun q6 => ?_)
      refine rn_if_ne (pc := 30) 40 dk_Nm_maker_30 (by decide) (fun c7 => ?_) (fun c7 => ?_)
      · refine rn_aload_n (pc := 40) 0 dk_Nm_maker_40 rfl rfl rfl ?_
        refine gf_Nm_18 (pc := 41) rfl dk_Nm_maker_41 ?_
        refine cl_Nm_148 (pc := 44) (As := []) (st := []) 2 rfl rfl (ct_Is_isFull X 2 rfl q6.2) (Nat.le_trans (Nat.le_of_ble_eq_true rfl) hF0) rfl rfl (Nat.le_of_ble_eq_true rfl) dk_Nm_maker_44 (fun q8 => ?_)
        refine rn_if_eq (pc := 47) 57 dk_Nm_maker_47 (by decide) (fun c9 => ?_) (fun c9 => ?_)
        · refine rn_aload_n (pc := 57) 0 dk_Nm_maker_57 rfl rfl rfl ?_
          refine gf_Nm_18 (pc := 58) rfl dk_Nm_maker_58 ?_
          refine rn_iload_n (pc := 61) 1 dk_Nm_maker_61 rfl rfl ?_
          refine rn_iload_n (pc := 62) 2 dk_Nm_maker_62 rfl rfl ?_
          refine rn_iload_n (pc := 63) 3 dk_Nm_maker_63 rfl rfl ?_
          refine cl_Nm_151 (pc := 64) (As := [.int p1, .int p2, .int p3]) (st := []) 2 rfl rfl (ct_Is_addMaker X 2 rfl p1 p2 p3 q8.2) (Nat.le_trans (Nat.le_of_ble_eq_true rfl) hF0) rfl rfl (Nat.le_of_ble_eq_true rfl) dk_Nm_maker_64 (fun q10 => ?_)
          exact rn_iret rfl dk_Nm_maker_67
        · refine rn_aload_n (pc := 50) 0 dk_Nm_maker_50 rfl rfl rfl ?_
          refine rn_bipush (pc := 51) (-7 : Int32) dk_Nm_maker_51 cn_b_m7 ?_
          refine cl_Nm_73 (pc := 53) (As := [.int (-7 : Int32)]) (st := []) rfl (ct_Nm_refuse X (-7 : Int32) q8.2) (Nat.le_trans (Nat.le_of_ble_eq_true rfl) hF0) rfl rfl (Nat.le_of_ble_eq_true rfl) dk_Nm_maker_53 (fun q11 => ?_)
          exact rn_iret rfl dk_Nm_maker_56
      · refine rn_aload_n (pc := 33) 0 dk_Nm_maker_33 rfl rfl rfl ?_
        refine rn_bipush (pc := 34) (-6 : Int32) dk_Nm_maker_34 cn_b_m6 ?_
        refine cl_Nm_73 (pc := 36) (As := [.int (-6 : Int32)]) (st := []) rfl (ct_Nm_refuse X (-6 : Int32) q6.2) (Nat.le_trans (Nat.le_of_ble_eq_true rfl) hF0) rfl rfl (Nat.le_of_ble_eq_true rfl) dk_Nm_maker_36 (fun q12 => ?_)
        exact rn_iret rfl dk_Nm_maker_39
  · refine rn_aload_n (pc := 7) 0 dk_Nm_maker_7 rfl rfl rfl ?_
    refine rn_iconst (pc := 8) (-1 : Int32) dk_Nm_maker_8 cn_i_m1 ?_
    refine cl_Nm_73 (pc := 9) (As := [.int (-1 : Int32)]) (st := []) rfl (ct_Nm_refuse X (-1 : Int32) q1.2) (Nat.le_trans (Nat.le_of_ble_eq_true rfl) hF0) rfl rfl (Nat.le_of_ble_eq_true rfl) dk_Nm_maker_9 (fun q13 => ?_)
    exact rn_iret rfl dk_Nm_maker_12
theorem dk_Nm_parts_0 : decode mi_Nm_parts.2.1 0 = .ok (.iload_n 1, 1) := by decide +kernel
theorem dk_Nm_parts_1 : decode mi_Nm_parts.2.1 1 = .ok (.aload_n 0, 1) := by decide +kernel
theorem dk_Nm_parts_2 : decode mi_Nm_parts.2.1 2 = .ok (.getfield 18, 3) := by decide +kernel
theorem dk_Nm_parts_5 : decode mi_Nm_parts.2.1 5 = .ok (.getfield 155, 3) := by decide +kernel
theorem dk_Nm_parts_8 : decode mi_Nm_parts.2.1 8 = .ok (.bipush 8, 2) := by decide +kernel
theorem dk_Nm_parts_10 : decode mi_Nm_parts.2.1 10 = .ok (.invokestatic 144, 3) := by decide +kernel
theorem dk_Nm_parts_13 : decode mi_Nm_parts.2.1 13 = .ok (.ifCond .ne 10, 3) := by decide +kernel
theorem dk_Nm_parts_16 : decode mi_Nm_parts.2.1 16 = .ok (.aload_n 0, 1) := by decide +kernel
theorem dk_Nm_parts_17 : decode mi_Nm_parts.2.1 17 = .ok (.bipush (-6), 2) := by decide +kernel
theorem dk_Nm_parts_19 : decode mi_Nm_parts.2.1 19 = .ok (.invokevirtual 73, 3) := by decide +kernel
theorem dk_Nm_parts_22 : decode mi_Nm_parts.2.1 22 = .ok (.ireturn, 1) := by decide +kernel
theorem dk_Nm_parts_23 : decode mi_Nm_parts.2.1 23 = .ok (.aload_n 0, 1) := by decide +kernel
theorem dk_Nm_parts_24 : decode mi_Nm_parts.2.1 24 = .ok (.getfield 18, 3) := by decide +kernel
theorem dk_Nm_parts_27 : decode mi_Nm_parts.2.1 27 = .ok (.getfield 155, 3) := by decide +kernel
theorem dk_Nm_parts_30 : decode mi_Nm_parts.2.1 30 = .ok (.istore_n 2, 1) := by decide +kernel
theorem dk_Nm_parts_31 : decode mi_Nm_parts.2.1 31 = .ok (.aload_n 0, 1) := by decide +kernel
theorem dk_Nm_parts_32 : decode mi_Nm_parts.2.1 32 = .ok (.getfield 18, 3) := by decide +kernel
theorem dk_Nm_parts_35 : decode mi_Nm_parts.2.1 35 = .ok (.iload_n 1, 1) := by decide +kernel
theorem dk_Nm_parts_36 : decode mi_Nm_parts.2.1 36 = .ok (.putfield 155, 3) := by decide +kernel
theorem dk_Nm_parts_39 : decode mi_Nm_parts.2.1 39 = .ok (.iload_n 2, 1) := by decide +kernel
theorem dk_Nm_parts_40 : decode mi_Nm_parts.2.1 40 = .ok (.ireturn, 1) := by decide +kernel
def Nm_parts (p1 : Int32) (σ : nm_St) : Option (Int32 × nm_St) :=
  ((Nm_isWithin p1 (σ.1 2 7) (8 : Int32) σ).bind fun q1 =>
  (if q1.1 = 0 then
    ((Nm_refuse (-6 : Int32) q1.2).bind fun q4 =>
    some (q4.1, q4.2))
  else
    (nm_let (nm_pI q1.2 2 7 p1) fun s3 =>
    some ((q1.2.1 2 7), s3))))
set_option maxRecDepth 100000 in
set_option maxHeartbeats 4000000 in
theorem ct_Nm_parts (X : nm_X) (p1 : Int32) (σ : nm_St) : Ct X mi_Nm_parts 1 nm_wI [.ref 0, .int p1] σ (Nm_parts p1 σ) := by
  refine Ct.of (by decide +kernel) rfl (fun F hF0 => ?_)
  unfold Nm_parts
  refine rn_iload_n (pc := 0) 1 dk_Nm_parts_0 rfl rfl ?_
  refine rn_aload_n (pc := 1) 0 dk_Nm_parts_1 rfl rfl rfl ?_
  refine gf_Nm_18 (pc := 2) rfl dk_Nm_parts_2 ?_
  refine gf_Nm_155 (pc := 5) 2 rfl rfl dk_Nm_parts_5 ?_
  refine rn_bipush (pc := 8) (8 : Int32) dk_Nm_parts_8 cn_b_8 ?_
  refine cl_Nm_144 (pc := 10) (As := [.int p1, .int (σ.1 2 7), .int (8 : Int32)]) (st := []) rfl (ct_Nm_isWithin X p1 (σ.1 2 7) (8 : Int32) σ) (Nat.le_trans (Nat.le_of_ble_eq_true rfl) hF0) rfl rfl (Nat.le_of_ble_eq_true rfl) dk_Nm_parts_10 (fun q1 => ?_)
  refine rn_if_ne (pc := 13) 23 dk_Nm_parts_13 (by decide) (fun c2 => ?_) (fun c2 => ?_)
  · refine rn_aload_n (pc := 23) 0 dk_Nm_parts_23 rfl rfl rfl ?_
    refine gf_Nm_18 (pc := 24) rfl dk_Nm_parts_24 ?_
    refine gf_Nm_155 (pc := 27) 2 rfl rfl dk_Nm_parts_27 ?_
    refine rn_istore_n (pc := 30) 2 dk_Nm_parts_30 rfl rfl rfl ?_
    refine rn_aload_n (pc := 31) 0 dk_Nm_parts_31 rfl rfl rfl ?_
    refine gf_Nm_18 (pc := 32) rfl dk_Nm_parts_32 ?_
    refine rn_iload_n (pc := 35) 1 dk_Nm_parts_35 rfl rfl ?_
    refine pf_Nm_155 (pc := 36) 2 rfl rfl dk_Nm_parts_36 ?_
    refine rn_lets (fun s3 => ?_)
    refine rn_iload_n (pc := 39) 2 dk_Nm_parts_39 rfl rfl ?_
    exact rn_iret rfl dk_Nm_parts_40
  · refine rn_aload_n (pc := 16) 0 dk_Nm_parts_16 rfl rfl rfl ?_
    refine rn_bipush (pc := 17) (-6 : Int32) dk_Nm_parts_17 cn_b_m6 ?_
    refine cl_Nm_73 (pc := 19) (As := [.int (-6 : Int32)]) (st := []) rfl (ct_Nm_refuse X (-6 : Int32) q1.2) (Nat.le_trans (Nat.le_of_ble_eq_true rfl) hF0) rfl rfl (Nat.le_of_ble_eq_true rfl) dk_Nm_parts_19 (fun q4 => ?_)
    exact rn_iret rfl dk_Nm_parts_22
theorem dk_Is_isPart_0 : decode mi_Is_isPart.2.1 0 = .ok (.iload_n 1, 1) := by decide +kernel
theorem dk_Is_isPart_1 : decode mi_Is_isPart.2.1 1 = .ok (.ifCond .lt 15, 3) := by decide +kernel
theorem dk_Is_isPart_4 : decode mi_Is_isPart.2.1 4 = .ok (.iload_n 1, 1) := by decide +kernel
theorem dk_Is_isPart_5 : decode mi_Is_isPart.2.1 5 = .ok (.aload_n 0, 1) := by decide +kernel
theorem dk_Is_isPart_6 : decode mi_Is_isPart.2.1 6 = .ok (.getfield 34, 3) := by decide +kernel
theorem dk_Is_isPart_9 : decode mi_Is_isPart.2.1 9 = .ok (.if_icmp .ge 7, 3) := by decide +kernel
theorem dk_Is_isPart_12 : decode mi_Is_isPart.2.1 12 = .ok (.iconst 1, 1) := by decide +kernel
theorem dk_Is_isPart_13 : decode mi_Is_isPart.2.1 13 = .ok (.goto 4, 3) := by decide +kernel
theorem dk_Is_isPart_16 : decode mi_Is_isPart.2.1 16 = .ok (.iconst 0, 1) := by decide +kernel
theorem dk_Is_isPart_17 : decode mi_Is_isPart.2.1 17 = .ok (.ireturn, 1) := by decide +kernel
def Is_isPart (o : Nat) (p1 : Int32) (σ : nm_St) : Option (Int32 × nm_St) :=
  (if p1 < 0 then
    some ((0 : Int32), σ)
  else
    (if (σ.1 o 7) ≤ p1 then
      some ((0 : Int32), σ)
    else
      some ((1 : Int32), σ)))
set_option maxRecDepth 100000 in
set_option maxHeartbeats 4000000 in
theorem ct_Is_isPart (X : nm_X) (o : Nat) (ho : nm_isl o = true) (p1 : Int32) (σ : nm_St) : Ct X mi_Is_isPart 0 nm_wI [.ref o, .int p1] σ (Is_isPart o p1 σ) := by
  refine Ct.of (by decide +kernel) rfl (fun F hF0 => ?_)
  unfold Is_isPart
  refine rn_iload_n (pc := 0) 1 dk_Is_isPart_0 rfl rfl ?_
  refine rn_if_lt (pc := 1) 16 dk_Is_isPart_1 (by decide) (fun c1 => ?_) (fun c1 => ?_)
  · refine rn_iconst (pc := 16) (0 : Int32) dk_Is_isPart_16 cn_i_0 ?_
    exact rn_zret (ty := .boolean) rfl rfl dk_Is_isPart_17
  · refine rn_iload_n (pc := 4) 1 dk_Is_isPart_4 rfl rfl ?_
    refine rn_aload_n (pc := 5) 0 dk_Is_isPart_5 rfl rfl (nm_rok_isl ho) ?_
    refine gf_Is_34 (pc := 6) o ho rfl dk_Is_isPart_6 ?_
    refine rn_icmp_ge (pc := 9) 16 dk_Is_isPart_9 (by decide) (fun c2 => ?_) (fun c2 => ?_)
    · refine rn_iconst (pc := 16) (0 : Int32) dk_Is_isPart_16 cn_i_0 ?_
      exact rn_zret (ty := .boolean) rfl rfl dk_Is_isPart_17
    · refine rn_iconst (pc := 12) (1 : Int32) dk_Is_isPart_12 cn_i_1 ?_
      refine rn_goto (pc := 13) 17 dk_Is_isPart_13 (by decide) ?_
      exact rn_zret (ty := .boolean) rfl rfl dk_Is_isPart_17
