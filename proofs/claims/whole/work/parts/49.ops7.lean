/-! the image -/
section IMG
variable {σ : nm_St} {T U : is_T} {E : Nat → Nat → Int64}
theorem op_image (h : RelT σ T U E) : OkB σ Nm_image Md_image := by
  obtain ⟨hc, hm, hp, hx⟩ := h
  obtain ⟨τ1, e1, u1⟩ := is_become (o := 9) (o1 := 2) hc.1 (Or.inr (by omega))
  have F1 : Fr [2] σ (nm_pI τ1 0 9 (nI 1)) := u1.2.fr9.pI _ rfl
  have i2 : IslR τ1 2 T := hc.1.fr2 u1.2.fr9 rfl
  have hm1 := hm.fr F1 rfl rfl rfl
  have F2 : Fr [2, 12] (nm_pI τ1 0 9 (nI 1)) (nm_pI (nm_pI τ1 0 9 (nI 1)) 70 36 (nI 1)) := (Fr.rf _ _).pI _ rfl
  have hm2 := hm1.1.fr F2 rfl
  obtain ⟨τ2, e2, k2, f2, g2⟩ := md_all_st (c := 88) hm2 (by omega)
  have F3 : Fr [2, 12] (nm_pI (nm_pI τ1 0 9 (nI 1)) 70 36 (nI 1)) τ2 := fun k j hk => by
    refine ⟨f2 k j ?_, by rw [g2]⟩
    rintro rfl
    exact absurd hk (by rw [show rg 88 j = 12 from rfl]; decide)
  have F : Fr [2, 12] σ τ2 := (F1.mono rfl).tr (F2.tr F3)
  refine ⟨nI (T 0 6), nm_pI τ1 0 9 (nI 1), τ2, ?_, ?_, T, U, E, hc.fr F rfl rfl, hm.fr F rfl rfl rfl, hp, ?_⟩
  · simp (disch := omega) only [Nm_image, pl_0, pl_1, pl_2, pl_3, pl_4, pl_5, pl_6, pl_7, pl_8, pl_9, pl_10, pl_11, pl_12, pl_13, pl_14, pl_15, pl_16, pl_17, pl_18, pl_19, pl_20, pl_21, pl_30, pl_40, pl_50, pl_51, pl_60, pl_70, pl_71, pl_99, pl_100, pl_160, pl_240, pl_256, pl_300, pl_999, pl_1000, pl_1280, pl_9999, pl_10000, pu_neg, pu_nn, pu_le, pu_lt, pu_eq, pu_cl, pu_in, pu_g, ↓pu_let, ↓pu_bind, pu_m1, pu_add, pu_mul, Nat.not_lt_zero, if_false, if_true, Nat.zero_le, pu_d2, pu_d100, pu_em1, ↓reduceIte, Nat.reduceEqDiff, Nat.reduceLT, Nat.reduceLeDiff, Nat.reduceAdd, Nat.reduceMul, Nat.reduceSub, not_true_eq_false, not_false_eq_true, and_true, true_and, and_false, false_and, or_true, true_or, or_false, false_or, Nat.lt_irrefl, Nat.le_refl, Nat.add_zero, Bool.false_eq_true, ↓pu_gI, nd_le, nd_leT, nd_lt, nd_ltT, nd_eq, nd_eqT, e1, pI_ne, i2.c]
  · have k70 : τ1.1 70 0 = nI (T 0 6) := by
      have := hm1.1.c
      rwa [pI_ne _ _ (by omega)] at this
    simp (disch := omega) only [Md_image, pl_0, pl_1, pl_2, pl_3, pl_4, pl_5, pl_6, pl_7, pl_8, pl_9, pl_10, pl_11, pl_12, pl_13, pl_14, pl_15, pl_16, pl_17, pl_18, pl_19, pl_20, pl_21, pl_30, pl_40, pl_50, pl_51, pl_60, pl_70, pl_71, pl_99, pl_100, pl_160, pl_240, pl_256, pl_300, pl_999, pl_1000, pl_1280, pl_9999, pl_10000, pu_neg, pu_nn, pu_le, pu_lt, pu_eq, pu_cl, pu_in, pu_g, ↓pu_let, ↓pu_bind, pu_m1, pu_add, pu_mul, Nat.not_lt_zero, if_false, if_true, Nat.zero_le, pu_d2, pu_d100, pu_em1, ↓reduceIte, Nat.reduceEqDiff, Nat.reduceLT, Nat.reduceLeDiff, Nat.reduceAdd, Nat.reduceMul, Nat.reduceSub, not_true_eq_false, not_false_eq_true, and_true, true_and, and_false, false_and, or_true, true_or, or_false, false_or, Nat.lt_irrefl, Nat.le_refl, Nat.add_zero, Bool.false_eq_true, ↓pu_gI, nd_le, nd_leT, nd_lt, nd_ltT, nd_eq, nd_eqT, e2, f2 70 0 (by omega), pI_ne, k70]
  · refine ⟨Or.inr ⟨?_, ?_, T, ?_, k2, hp.1⟩, ?_, ?_, ?_⟩
    · rw [f2 0 9 (by omega), pI_ne _ _ (by omega), pI_eq]
    · rw [f2 70 36 (by omega), pI_eq]
    · refine ⟨fun r j h1 h2 hj => ?_, fun j h1 h2 => ?_⟩
      · rw [f2 (9 + r) j (by omega), pI_ne _ _ (by omega), pI_ne _ _ (by omega)]
        exact u1.1.1 r j h1 h2 hj
      · rw [f2 9 j (by omega), pI_ne _ _ (by omega), pI_ne _ _ (by omega)]
        exact u1.1.2 j h1 h2
    · rw [(F 0 10 rfl).1, (F 70 6 rfl).1]; exact hx.2.1
    · exact hx.2.2.1.fr F rfl rfl
    · exact hx.2.2.2.fr F rfl rfl
/-- shelves after a restoring: those of makers that aren't are emptied -/
def resU (U : is_T) (c : Nat) : Nat → is_T
  | 0 => U
  | n + 1 => if U 0 n = 2 ∧ c ≤ U 3 n then shoU (resU U c n) n 0 0 else resU U c n
theorem res_t {c n : Nat} (h : U 0 n = 2 ∧ c ≤ U 3 n) : resU U c (n + 1) = shoU (resU U c n) n 0 0 := if_pos h
theorem res_f {c n : Nat} (h : ¬ (U 0 n = 2 ∧ c ≤ U 3 n)) : resU U c (n + 1) = resU U c n := if_neg h
theorem res_ge {c r s : Nat} : ∀ n, n ≤ s → resU U c n r s = U r s := by
  intro n
  induction n with
  | zero => intro _; rfl
  | succ n ih =>
    intro h
    by_cases e : U 0 n = 2 ∧ c ≤ U 3 n
    · rw [res_t e]
      unfold shoU
      rw [up_at, up_at, up_at, if_neg (by omega), if_neg (by omega), if_neg (by omega)]
      exact ih (by omega)
    · rw [res_f e]; exact ih (by omega)
theorem res_I {c d : Nat} (hU : ShI U d) : ∀ n, n ≤ 8 → ShI (resU U c n) d ∧ ∀ s, s < n → resU U c n 0 s = 2 → resU U c n 3 s < c := by
  intro n
  induction n with
  | zero => intro _; exact ⟨hU, fun s hs => by omega⟩
  | succ n ih =>
    intro hn
    obtain ⟨i1, i2⟩ := ih (by omega)
    by_cases e : U 0 n = 2 ∧ c ≤ U 3 n
    · rw [res_t e]
      refine ⟨sho_I i1 (Or.inl rfl), fun s hs h2 => ?_⟩
      unfold shoU at h2 ⊢
      simp only [up_at] at h2 ⊢
      by_cases z : s = n
      · subst z; simp at h2
      · simp [z] at h2 ⊢
        exact i2 s (by omega) h2
    · rw [res_f e]
      refine ⟨i1, fun s hs h2 => ?_⟩
      by_cases z : s = n
      · subst z
        rw [res_ge s (Nat.le_refl _)] at h2 ⊢
        omega
      · exact i2 s (by omega) h2
theorem ShC.sho {ρ : nm_St} {V : is_T} (h : ShC ρ V) {s : Nat} (hs : s < 8) : ShC (nm_pI (nm_pI (nm_pI ρ (54 + 2 * s) 1 (nI 0)) (54 + 2 * s) 3 (nI 0)) (54 + 2 * s) 4 (-nI 1)) (shoU V s 0 0) := by
  intro s' hs'
  have := h s' hs'
  unfold shoU
  simp only [up_at]
  by_cases e : s' = s
  · subst e
    simp (disch := omega) only [pI_ne, pI_eq, this.2.1]
    simp
  · simp (disch := omega) only [pI_ne]
    simpa [e] using this
theorem ShM.sho {ρ : nm_St} {V : is_T} (h : ShM ρ V) {s : Nat} (hs : s < 8) : ShM (nm_pI ρ 78 s (nI 0)) (shoU V s 0 0) := by
  intro s' hs'
  have := h s' hs'
  unfold shoU
  simp only [up_at]
  by_cases e : s' = s
  · subst e
    simp (disch := omega) only [pI_ne, pI_eq, this.2.1]
    simp
  · simp (disch := omega) only [pI_ne]
    simpa [e] using this
theorem res_sz {c r s : Nat} : ∀ n, resU U c n 2 s ≤ U 2 s := by
  intro n
  induction n with
  | zero => exact Nat.le_refl _
  | succ n ih =>
    by_cases e : U 0 n = 2 ∧ c ≤ U 3 n
    · rw [res_t e]
      unfold shoU
      rw [up_at, up_at, up_at, if_neg (by omega)]
      split
      · exact Nat.zero_le _
      · rw [if_neg (by omega)]; exact ih
    · rw [res_f e]; exact ih
theorem is_resL {V : is_T} (hV : IslI V) (hP : ShI U 8) (hi : IslR σ 2 V) (hs : ShC σ U) : ∃ τ, Nm_restore_l27 (fun (s13 : nm_St) => some ((s13.1 2 6), s13)) 400 (nI 0) σ = some (nI (V 0 6), τ) ∧ ShC τ (resU U (V 0 6) 8) ∧ Fr [6] σ τ ∧ τ.2 = σ.2 := by
  have hc := hV.1
  refine lp_Q (fun n i (a : nm_St) => Nm_restore_l27 _ n (nI i) a) 8 (fun i a => ShC a (resU U (V 0 6) i) ∧ Fr [6] σ a ∧ a.2 = σ.2) (fun r => ∃ τ, r = some (nI (V 0 6), τ) ∧ ShC τ (resU U (V 0 6) 8) ∧ Fr [6] σ τ ∧ τ.2 = σ.2) ?_ ?_ 400 0 σ (by omega) ⟨hs, Fr.rf _ _, rfl⟩ (by omega)
  · intro n i a hi8 hp ih
    obtain ⟨c1, c2, c3, c4⟩ := hp.1 i hi8
    rw [res_ge i (Nat.le_refl _)] at c1 c2 c3 c4
    rw [res_ge i (Nat.le_refl _)] at c4
    obtain ⟨⟨l1, l2, l3⟩, l4, l5⟩ := hP i hi8
    have hi' := hi.fr2 hp.2.1 rfl
    by_cases e0 : U 0 i = 2
    · rw [if_pos e0] at c4
      have kS : Sh_isMaker (54 + 2 * i) a = some (nI 1, a) := by
        unfold Sh_isMaker
        simp (disch := omega) only [pl_0, pl_1, pl_2, pl_3, pl_4, pl_5, pl_6, pl_7, pl_8, pl_9, pl_10, pl_11, pl_12, pl_13, pl_14, pl_15, pl_16, pl_17, pl_18, pl_19, pl_20, pl_21, pl_30, pl_40, pl_50, pl_51, pl_60, pl_70, pl_71, pl_99, pl_100, pl_160, pl_240, pl_256, pl_300, pl_999, pl_1000, pl_1280, pl_9999, pl_10000, pu_neg, pu_nn, pu_le, pu_lt, pu_eq, pu_cl, pu_in, pu_g, ↓pu_let, ↓pu_bind, pu_m1, pu_add, pu_mul, Nat.not_lt_zero, if_false, if_true, Nat.zero_le, pu_d2, pu_d100, pu_em1, ↓reduceIte, Nat.reduceEqDiff, Nat.reduceLT, Nat.reduceLeDiff, Nat.reduceAdd, Nat.reduceMul, Nat.reduceSub, not_true_eq_false, not_false_eq_true, and_true, true_and, and_false, false_and, or_true, true_or, or_false, false_or, Nat.lt_irrefl, Nat.le_refl, Nat.add_zero, Bool.false_eq_true, ↓pu_gI, nd_le, nd_leT, nd_lt, nd_ltT, nd_eq, nd_eqT, c1, e0]
      by_cases e3 : V 0 6 ≤ U 3 i
      · have hz : U 0 i = 2 ∧ V 0 6 ≤ U 3 i := ⟨e0, e3⟩
        have hs2 := ih (nm_pI (nm_pI (nm_pI a (54 + 2 * i) 1 (nI 0)) (54 + 2 * i) 3 (nI 0)) (54 + 2 * i) 4 (-nI 1)) (by
          rw [res_t hz]
          exact ⟨hp.1.sho hi8, (((hp.2.1.pI _ (by rw [(rg_sh hi8 _).1]; rfl)).pI _ (by rw [(rg_sh hi8 _).1]; rfl)).pI _ (by rw [(rg_sh hi8 _).1]; rfl)), hp.2.2⟩)
        have l5' := l5 e0
        simp (disch := omega) only [Nm_restore_l27, pl_0, pl_1, pl_2, pl_3, pl_4, pl_5, pl_6, pl_7, pl_8, pl_9, pl_10, pl_11, pl_12, pl_13, pl_14, pl_15, pl_16, pl_17, pl_18, pl_19, pl_20, pl_21, pl_30, pl_40, pl_50, pl_51, pl_60, pl_70, pl_71, pl_99, pl_100, pl_160, pl_240, pl_256, pl_300, pl_999, pl_1000, pl_1280, pl_9999, pl_10000, pu_neg, pu_nn, pu_le, pu_lt, pu_eq, pu_cl, pu_in, pu_g, ↓pu_let, ↓pu_bind, pu_m1, pu_add, pu_mul, Nat.not_lt_zero, if_false, if_true, Nat.zero_le, pu_d2, pu_d100, pu_em1, ↓reduceIte, Nat.reduceEqDiff, Nat.reduceLT, Nat.reduceLeDiff, Nat.reduceAdd, Nat.reduceMul, Nat.reduceSub, not_true_eq_false, not_false_eq_true, and_true, true_and, and_false, false_and, or_true, true_or, or_false, false_or, Nat.lt_irrefl, Nat.le_refl, Nat.add_zero, Bool.false_eq_true, ↓pu_gI, nd_le, nd_leT, nd_lt, nd_ltT, nd_eq, nd_eqT, kS, sf_n, Sh_whose, Sh_holdNothing, c4, is_isMaker_n hi' hV (x := nI (U 3 i)) (Or.inr (nI_le e3 (by omega)))]
        exact hs2
      · have hz : ¬ (U 0 i = 2 ∧ V 0 6 ≤ U 3 i) := fun q => e3 q.2
        have hs2 := ih a (by rw [res_f hz]; exact hp)
        simp (disch := omega) only [Nm_restore_l27, pl_0, pl_1, pl_2, pl_3, pl_4, pl_5, pl_6, pl_7, pl_8, pl_9, pl_10, pl_11, pl_12, pl_13, pl_14, pl_15, pl_16, pl_17, pl_18, pl_19, pl_20, pl_21, pl_30, pl_40, pl_50, pl_51, pl_60, pl_70, pl_71, pl_99, pl_100, pl_160, pl_240, pl_256, pl_300, pl_999, pl_1000, pl_1280, pl_9999, pl_10000, pu_neg, pu_nn, pu_le, pu_lt, pu_eq, pu_cl, pu_in, pu_g, ↓pu_let, ↓pu_bind, pu_m1, pu_add, pu_mul, Nat.not_lt_zero, if_false, if_true, Nat.zero_le, pu_d2, pu_d100, pu_em1, ↓reduceIte, Nat.reduceEqDiff, Nat.reduceLT, Nat.reduceLeDiff, Nat.reduceAdd, Nat.reduceMul, Nat.reduceSub, not_true_eq_false, not_false_eq_true, and_true, true_and, and_false, false_and, or_true, true_or, or_false, false_or, Nat.lt_irrefl, Nat.le_refl, Nat.add_zero, Bool.false_eq_true, ↓pu_gI, nd_le, nd_leT, nd_lt, nd_ltT, nd_eq, nd_eqT, kS, sf_n, Sh_whose, c4, is_isMaker_v hi' hV (show U 3 i < V 0 6 by omega)]
        exact hs2
    · have kS : Sh_isMaker (54 + 2 * i) a = some (nI 0, a) := by
        unfold Sh_isMaker
        simp (disch := omega) only [pl_0, pl_1, pl_2, pl_3, pl_4, pl_5, pl_6, pl_7, pl_8, pl_9, pl_10, pl_11, pl_12, pl_13, pl_14, pl_15, pl_16, pl_17, pl_18, pl_19, pl_20, pl_21, pl_30, pl_40, pl_50, pl_51, pl_60, pl_70, pl_71, pl_99, pl_100, pl_160, pl_240, pl_256, pl_300, pl_999, pl_1000, pl_1280, pl_9999, pl_10000, pu_neg, pu_nn, pu_le, pu_lt, pu_eq, pu_cl, pu_in, pu_g, ↓pu_let, ↓pu_bind, pu_m1, pu_add, pu_mul, Nat.not_lt_zero, if_false, if_true, Nat.zero_le, pu_d2, pu_d100, pu_em1, ↓reduceIte, Nat.reduceEqDiff, Nat.reduceLT, Nat.reduceLeDiff, Nat.reduceAdd, Nat.reduceMul, Nat.reduceSub, not_true_eq_false, not_false_eq_true, and_true, true_and, and_false, false_and, or_true, true_or, or_false, false_or, Nat.lt_irrefl, Nat.le_refl, Nat.add_zero, Bool.false_eq_true, ↓pu_gI, nd_le, nd_leT, nd_lt, nd_ltT, nd_eq, nd_eqT, c1]
      have hz : ¬ (U 0 i = 2 ∧ V 0 6 ≤ U 3 i) := fun q => e0 q.1
      have hs2 := ih a (by rw [res_f hz]; exact hp)
      simp (disch := omega) only [Nm_restore_l27, pl_0, pl_1, pl_2, pl_3, pl_4, pl_5, pl_6, pl_7, pl_8, pl_9, pl_10, pl_11, pl_12, pl_13, pl_14, pl_15, pl_16, pl_17, pl_18, pl_19, pl_20, pl_21, pl_30, pl_40, pl_50, pl_51, pl_60, pl_70, pl_71, pl_99, pl_100, pl_160, pl_240, pl_256, pl_300, pl_999, pl_1000, pl_1280, pl_9999, pl_10000, pu_neg, pu_nn, pu_le, pu_lt, pu_eq, pu_cl, pu_in, pu_g, ↓pu_let, ↓pu_bind, pu_m1, pu_add, pu_mul, Nat.not_lt_zero, if_false, if_true, Nat.zero_le, pu_d2, pu_d100, pu_em1, ↓reduceIte, Nat.reduceEqDiff, Nat.reduceLT, Nat.reduceLeDiff, Nat.reduceAdd, Nat.reduceMul, Nat.reduceSub, not_true_eq_false, not_false_eq_true, and_true, true_and, and_false, false_and, or_true, true_or, or_false, false_or, Nat.lt_irrefl, Nat.le_refl, Nat.add_zero, Bool.false_eq_true, ↓pu_gI, nd_le, nd_leT, nd_lt, nd_ltT, nd_eq, nd_eqT, sf_n, kS]
      exact hs2
  · intro n a hp
    have hi' := hi.fr2 hp.2.1 rfl
    simp (disch := omega) only [Nm_restore_l27, pl_0, pl_1, pl_2, pl_3, pl_4, pl_5, pl_6, pl_7, pl_8, pl_9, pl_10, pl_11, pl_12, pl_13, pl_14, pl_15, pl_16, pl_17, pl_18, pl_19, pl_20, pl_21, pl_30, pl_40, pl_50, pl_51, pl_60, pl_70, pl_71, pl_99, pl_100, pl_160, pl_240, pl_256, pl_300, pl_999, pl_1000, pl_1280, pl_9999, pl_10000, pu_neg, pu_nn, pu_le, pu_lt, pu_eq, pu_cl, pu_in, pu_g, ↓pu_let, ↓pu_bind, pu_m1, pu_add, pu_mul, Nat.not_lt_zero, if_false, if_true, Nat.zero_le, pu_d2, pu_d100, pu_em1, ↓reduceIte, Nat.reduceEqDiff, Nat.reduceLT, Nat.reduceLeDiff, Nat.reduceAdd, Nat.reduceMul, Nat.reduceSub, not_true_eq_false, not_false_eq_true, and_true, true_and, and_false, false_and, or_true, true_or, or_false, false_or, Nat.lt_irrefl, Nat.le_refl, Nat.add_zero, Bool.false_eq_true, ↓pu_gI, nd_le, nd_leT, nd_lt, nd_ltT, nd_eq, nd_eqT, hi'.c]
    exact ⟨a, rfl, hp⟩
theorem md_resL {V : is_T} (hV : IslI V) (hP : ShI U 8) (hi : MdR σ V) (hs : ShM σ U) : ∃ τ, Md_restore_l25 (fun (s10 : nm_St) => some ((s10.1 70 0), s10)) 400 (nI 0) σ = some (nI (V 0 6), τ) ∧ ShM τ (resU U (V 0 6) 8) ∧ Fr [16] σ τ ∧ τ.2 = σ.2 := by
  have hc := hV.1
  refine lp_Q (fun n i (a : nm_St) => Md_restore_l25 _ n (nI i) a) 8 (fun i a => ShM a (resU U (V 0 6) i) ∧ Fr [16] σ a ∧ a.2 = σ.2) (fun r => ∃ τ, r = some (nI (V 0 6), τ) ∧ ShM τ (resU U (V 0 6) 8) ∧ Fr [16] σ τ ∧ τ.2 = σ.2) ?_ ?_ 400 0 σ (by omega) ⟨hs, Fr.rf _ _, rfl⟩ (by omega)
  · intro n i a hi8 hp ih
    obtain ⟨c1, c2, c3, c4⟩ := hp.1 i hi8
    rw [res_ge i (Nat.le_refl _)] at c1 c4
    rw [res_ge i (Nat.le_refl _)] at c4
    obtain ⟨⟨l1, l2, l3⟩, l4, l5⟩ := hP i hi8
    have hi' := hi.fr hp.2.1 rfl
    by_cases e0 : U 0 i = 2
    · have c4 := c4 e0
      by_cases e3 : V 0 6 ≤ U 3 i
      · have hz : U 0 i = 2 ∧ V 0 6 ≤ U 3 i := ⟨e0, e3⟩
        have hs2 := ih (nm_pI a 78 i (nI 0)) (by
          rw [res_t hz]
          exact ⟨hp.1.sho hi8, hp.2.1.pI _ rfl, hp.2.2⟩)
        have l5' := l5 e0
        simp (disch := omega) only [Md_restore_l25, pl_0, pl_1, pl_2, pl_3, pl_4, pl_5, pl_6, pl_7, pl_8, pl_9, pl_10, pl_11, pl_12, pl_13, pl_14, pl_15, pl_16, pl_17, pl_18, pl_19, pl_20, pl_21, pl_30, pl_40, pl_50, pl_51, pl_60, pl_70, pl_71, pl_99, pl_100, pl_160, pl_240, pl_256, pl_300, pl_999, pl_1000, pl_1280, pl_9999, pl_10000, pu_neg, pu_nn, pu_le, pu_lt, pu_eq, pu_cl, pu_in, pu_g, ↓pu_let, ↓pu_bind, pu_m1, pu_add, pu_mul, Nat.not_lt_zero, if_false, if_true, Nat.zero_le, pu_d2, pu_d100, pu_em1, ↓reduceIte, Nat.reduceEqDiff, Nat.reduceLT, Nat.reduceLeDiff, Nat.reduceAdd, Nat.reduceMul, Nat.reduceSub, not_true_eq_false, not_false_eq_true, and_true, true_and, and_false, false_and, or_true, true_or, or_false, false_or, Nat.lt_irrefl, Nat.le_refl, Nat.add_zero, Bool.false_eq_true, ↓pu_gI, nd_le, nd_leT, nd_lt, nd_ltT, nd_eq, nd_eqT, c1, e0, c4, hi'.c]
        exact hs2
      · have hz : ¬ (U 0 i = 2 ∧ V 0 6 ≤ U 3 i) := fun q => e3 q.2
        have hs2 := ih a (by rw [res_f hz]; exact hp)
        simp (disch := omega) only [Md_restore_l25, pl_0, pl_1, pl_2, pl_3, pl_4, pl_5, pl_6, pl_7, pl_8, pl_9, pl_10, pl_11, pl_12, pl_13, pl_14, pl_15, pl_16, pl_17, pl_18, pl_19, pl_20, pl_21, pl_30, pl_40, pl_50, pl_51, pl_60, pl_70, pl_71, pl_99, pl_100, pl_160, pl_240, pl_256, pl_300, pl_999, pl_1000, pl_1280, pl_9999, pl_10000, pu_neg, pu_nn, pu_le, pu_lt, pu_eq, pu_cl, pu_in, pu_g, ↓pu_let, ↓pu_bind, pu_m1, pu_add, pu_mul, Nat.not_lt_zero, if_false, if_true, Nat.zero_le, pu_d2, pu_d100, pu_em1, ↓reduceIte, Nat.reduceEqDiff, Nat.reduceLT, Nat.reduceLeDiff, Nat.reduceAdd, Nat.reduceMul, Nat.reduceSub, not_true_eq_false, not_false_eq_true, and_true, true_and, and_false, false_and, or_true, true_or, or_false, false_or, Nat.lt_irrefl, Nat.le_refl, Nat.add_zero, Bool.false_eq_true, ↓pu_gI, nd_le, nd_leT, nd_lt, nd_ltT, nd_eq, nd_eqT, c1, e0, c4, hi'.c]
        exact hs2
    · have hz : ¬ (U 0 i = 2 ∧ V 0 6 ≤ U 3 i) := fun q => e0 q.1
      have hs2 := ih a (by rw [res_f hz]; exact hp)
      simp (disch := omega) only [Md_restore_l25, pl_0, pl_1, pl_2, pl_3, pl_4, pl_5, pl_6, pl_7, pl_8, pl_9, pl_10, pl_11, pl_12, pl_13, pl_14, pl_15, pl_16, pl_17, pl_18, pl_19, pl_20, pl_21, pl_30, pl_40, pl_50, pl_51, pl_60, pl_70, pl_71, pl_99, pl_100, pl_160, pl_240, pl_256, pl_300, pl_999, pl_1000, pl_1280, pl_9999, pl_10000, pu_neg, pu_nn, pu_le, pu_lt, pu_eq, pu_cl, pu_in, pu_g, ↓pu_let, ↓pu_bind, pu_m1, pu_add, pu_mul, Nat.not_lt_zero, if_false, if_true, Nat.zero_le, pu_d2, pu_d100, pu_em1, ↓reduceIte, Nat.reduceEqDiff, Nat.reduceLT, Nat.reduceLeDiff, Nat.reduceAdd, Nat.reduceMul, Nat.reduceSub, not_true_eq_false, not_false_eq_true, and_true, true_and, and_false, false_and, or_true, true_or, or_false, false_or, Nat.lt_irrefl, Nat.le_refl, Nat.add_zero, Bool.false_eq_true, ↓pu_gI, nd_le, nd_leT, nd_lt, nd_ltT, nd_eq, nd_eqT, c1]
      exact hs2
  · intro n a hp
    have hi' := hi.fr hp.2.1 rfl
    simp (disch := omega) only [Md_restore_l25, pl_0, pl_1, pl_2, pl_3, pl_4, pl_5, pl_6, pl_7, pl_8, pl_9, pl_10, pl_11, pl_12, pl_13, pl_14, pl_15, pl_16, pl_17, pl_18, pl_19, pl_20, pl_21, pl_30, pl_40, pl_50, pl_51, pl_60, pl_70, pl_71, pl_99, pl_100, pl_160, pl_240, pl_256, pl_300, pl_999, pl_1000, pl_1280, pl_9999, pl_10000, pu_neg, pu_nn, pu_le, pu_lt, pu_eq, pu_cl, pu_in, pu_g, ↓pu_let, ↓pu_bind, pu_m1, pu_add, pu_mul, Nat.not_lt_zero, if_false, if_true, Nat.zero_le, pu_d2, pu_d100, pu_em1, ↓reduceIte, Nat.reduceEqDiff, Nat.reduceLT, Nat.reduceLeDiff, Nat.reduceAdd, Nat.reduceMul, Nat.reduceSub, not_true_eq_false, not_false_eq_true, and_true, true_and, and_false, false_and, or_true, true_or, or_false, false_or, Nat.lt_irrefl, Nat.le_refl, Nat.add_zero, Bool.false_eq_true, ↓pu_gI, nd_le, nd_leT, nd_lt, nd_ltT, nd_eq, nd_eqT, hi'.c]
    exact ⟨a, rfl, hp⟩
theorem ShI.mono {c d : Nat} (h : ShI U c) (hd : c ≤ d) : ShI U d := fun s hs => ⟨(h s hs).1, (h s hs).2.1, fun e => by have := (h s hs).2.2 e; omega⟩
theorem op_restore (h : RelT σ T U E) : OkB σ Nm_restore Md_restore := by
  obtain ⟨hc, hm, hp, hx⟩ := h
  rcases id hx.1 with ⟨a, b⟩ | ⟨a, b, V, v1, v2, v3⟩
  · have hf : Nm_restore σ = some (-nI 6, rfC σ 6) := by
      simp (disch := omega) only [Nm_restore, pl_0, pl_1, pl_2, pl_3, pl_4, pl_5, pl_6, pl_7, pl_8, pl_9, pl_10, pl_11, pl_12, pl_13, pl_14, pl_15, pl_16, pl_17, pl_18, pl_19, pl_20, pl_21, pl_30, pl_40, pl_50, pl_51, pl_60, pl_70, pl_71, pl_99, pl_100, pl_160, pl_240, pl_256, pl_300, pl_999, pl_1000, pl_1280, pl_9999, pl_10000, pu_neg, pu_nn, pu_le, pu_lt, pu_eq, pu_cl, pu_in, pu_g, ↓pu_let, ↓pu_bind, pu_m1, pu_add, pu_mul, Nat.not_lt_zero, if_false, if_true, Nat.zero_le, pu_d2, pu_d100, pu_em1, ↓reduceIte, Nat.reduceEqDiff, Nat.reduceLT, Nat.reduceLeDiff, Nat.reduceAdd, Nat.reduceMul, Nat.reduceSub, not_true_eq_false, not_false_eq_true, and_true, true_and, and_false, false_and, or_true, true_or, or_false, false_or, Nat.lt_irrefl, Nat.le_refl, Nat.add_zero, Bool.false_eq_true, ↓pu_gI, nd_le, nd_leT, nd_lt, nd_ltT, nd_eq, nd_eqT, a, nm_ref]
    have F1 : Fr [5] σ (rfC σ 6) := (Fr.rf _ _).pI _ rfl
    have hb : (rfC σ 6).1 70 36 = nI 0 := by rw [(F1 70 36 rfl).1]; exact b
    have hg : Md_restore (rfC σ 6) = some (-nI 6, rfM (rfC σ 6) 6) := by
      simp (disch := omega) only [Md_restore, pl_0, pl_1, pl_2, pl_3, pl_4, pl_5, pl_6, pl_7, pl_8, pl_9, pl_10, pl_11, pl_12, pl_13, pl_14, pl_15, pl_16, pl_17, pl_18, pl_19, pl_20, pl_21, pl_30, pl_40, pl_50, pl_51, pl_60, pl_70, pl_71, pl_99, pl_100, pl_160, pl_240, pl_256, pl_300, pl_999, pl_1000, pl_1280, pl_9999, pl_10000, pu_neg, pu_nn, pu_le, pu_lt, pu_eq, pu_cl, pu_in, pu_g, ↓pu_let, ↓pu_bind, pu_m1, pu_add, pu_mul, Nat.not_lt_zero, if_false, if_true, Nat.zero_le, pu_d2, pu_d100, pu_em1, ↓reduceIte, Nat.reduceEqDiff, Nat.reduceLT, Nat.reduceLeDiff, Nat.reduceAdd, Nat.reduceMul, Nat.reduceSub, not_true_eq_false, not_false_eq_true, and_true, true_and, and_false, false_and, or_true, true_or, or_false, false_or, Nat.lt_irrefl, Nat.le_refl, Nat.add_zero, Bool.false_eq_true, ↓pu_gI, nd_le, nd_leT, nd_lt, nd_ltT, nd_eq, nd_eqT, hb, md_no]
    have F : Fr [5, 15] σ (rfM (rfC σ 6) 6) := (F1.mono rfl).pI _ rfl
    refine ⟨_, _, _, hf, hg, T, U, E, hc.fr F rfl rfl, hm.fr F rfl rfl rfl, hp, hx.1.fr F rfl rfl, ?_, ?_, hx.2.2.2.fr F rfl rfl⟩
    · rw [(F 0 10 rfl).1, (F 70 6 rfl).1]; exact hx.2.1
    · intro i h1 h7
      have hr := hx.2.2.1 i h1 h7
      unfold rfM
      rw [pI_ne _ _ (by omega)]
      by_cases e : i = 6
      · subst e
        rw [pI_eq]
        unfold rfC
        rw [pI_eq, pI_ne _ _ (by omega), hr]
      · rw [pI_ne _ _ (by omega)]
        unfold rfC
        rw [pI_ne _ _ (by omega), pI_ne _ _ (by omega), hr]
  · obtain ⟨τ1, e1, u1⟩ := is_become (o := 2) (o1 := 9) v1 (Or.inl (by omega))
    have F1 := u1.2.fr2
    have hS8 : ShI U 8 := hp.2.mono hp.1.1
    obtain ⟨τ2, e2, s2, f2, g2⟩ := is_resL v3 hS8 u1.1 (hc.2.1.fr F1 rfl)
    have F12 : Fr [1, 6] σ τ2 := (F1.mono rfl).tr (f2.mono rfl)
    have k88 := v2.fr F12 rfl
    obtain ⟨τ3, e3, u3⟩ := md_all_ld k88 (by omega)
    obtain ⟨τ4, e4, s4, f4, g4⟩ := md_resL v3 hS8 u3.1 ((hm.2.1.fr F12 rfl).fr u3.2 rfl)
    have F34 : Fr [11, 16] τ2 τ4 := (u3.2.mono rfl).tr (f4.mono rfl)
    have F : Fr [1, 6, 11, 16] σ τ4 := (F12.mono rfl).tr (F34.mono rfl)
    obtain ⟨i1, i2⟩ := res_I (c := V 0 6) hp.2 8 (Nat.le_refl _)
    have hb : τ2.1 70 36 = nI 1 := by rw [(F12 70 36 rfl).1]; exact b
    refine ⟨nI (V 0 6), τ2, τ4, ?_, ?_, V, resU U (V 0 6) 8, E, ⟨(u1.1.fr2 f2 rfl).fr2 F34 rfl, s2.fr F34 rfl, fun s i hs hi => ?_⟩, ⟨u3.1.fr f4 rfl, s4, fun s i hs hi => ?_, hm.2.2.2.fr F rfl⟩, ⟨v3, fun s hs => ⟨(i1 s hs).1, (i1 s hs).2.1, fun e => i2 s hs e⟩⟩, hx.fr F rfl⟩
    · simp (disch := omega) only [Nm_restore, pl_0, pl_1, pl_2, pl_3, pl_4, pl_5, pl_6, pl_7, pl_8, pl_9, pl_10, pl_11, pl_12, pl_13, pl_14, pl_15, pl_16, pl_17, pl_18, pl_19, pl_20, pl_21, pl_30, pl_40, pl_50, pl_51, pl_60, pl_70, pl_71, pl_99, pl_100, pl_160, pl_240, pl_256, pl_300, pl_999, pl_1000, pl_1280, pl_9999, pl_10000, pu_neg, pu_nn, pu_le, pu_lt, pu_eq, pu_cl, pu_in, pu_g, ↓pu_let, ↓pu_bind, pu_m1, pu_add, pu_mul, Nat.not_lt_zero, if_false, if_true, Nat.zero_le, pu_d2, pu_d100, pu_em1, ↓reduceIte, Nat.reduceEqDiff, Nat.reduceLT, Nat.reduceLeDiff, Nat.reduceAdd, Nat.reduceMul, Nat.reduceSub, not_true_eq_false, not_false_eq_true, and_true, true_and, and_false, false_and, or_true, true_or, or_false, false_or, Nat.lt_irrefl, Nat.le_refl, Nat.add_zero, Bool.false_eq_true, ↓pu_gI, nd_le, nd_leT, nd_lt, nd_ltT, nd_eq, nd_eqT, a, e1, e2]
    · simp (disch := omega) only [Md_restore, pl_0, pl_1, pl_2, pl_3, pl_4, pl_5, pl_6, pl_7, pl_8, pl_9, pl_10, pl_11, pl_12, pl_13, pl_14, pl_15, pl_16, pl_17, pl_18, pl_19, pl_20, pl_21, pl_30, pl_40, pl_50, pl_51, pl_60, pl_70, pl_71, pl_99, pl_100, pl_160, pl_240, pl_256, pl_300, pl_999, pl_1000, pl_1280, pl_9999, pl_10000, pu_neg, pu_nn, pu_le, pu_lt, pu_eq, pu_cl, pu_in, pu_g, ↓pu_let, ↓pu_bind, pu_m1, pu_add, pu_mul, Nat.not_lt_zero, if_false, if_true, Nat.zero_le, pu_d2, pu_d100, pu_em1, ↓reduceIte, Nat.reduceEqDiff, Nat.reduceLT, Nat.reduceLeDiff, Nat.reduceAdd, Nat.reduceMul, Nat.reduceSub, not_true_eq_false, not_false_eq_true, and_true, true_and, and_false, false_and, or_true, true_or, or_false, false_or, Nat.lt_irrefl, Nat.le_refl, Nat.add_zero, Bool.false_eq_true, ↓pu_gI, nd_le, nd_leT, nd_lt, nd_ltT, nd_eq, nd_eqT, hb, e3, e4]
    · have hle := res_sz (U := U) (c := V 0 6) (r := 0) (s := s) 8
      rw [(F34 _ _ (by rw [(rg_sh hs _).2]; rfl)).2, g2, u1.2.2]
      exact hc.el hs (by omega)
    · have hle := res_sz (U := U) (c := V 0 6) (r := 0) (s := s) 8
      have hsz := (hp.2 s hs).1.2.2
      rw [g4, (u3.2 82 _ rfl).2, (F12 82 _ rfl).2]
      exact hm.el hs (by omega)
end IMG
