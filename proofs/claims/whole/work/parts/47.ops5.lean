/-! calls that change shelves, the image; and those told out of the whole -/
section OKS
variable {σ : nm_St} {T U : is_T} {E : Nat → Nat → Int64}
theorem ok_eq {β : Type} {f g : nm_St → Option (β × nm_St)} (h : RelT σ T U E) (a : β) (hf : f σ = some (a, σ)) (hg : g σ = some (a, σ)) : OkB σ f g := ⟨a, σ, σ, hf, hg, T, U, E, h⟩
theorem ok_s {β : Type} {f g : nm_St → Option (β × nm_St)} (h : RelT σ T U E) (a : β) (V : is_T) (F : Nat → Nat → Int64) (hV : ShI V (T 0 6)) (hf : ∃ τ, f σ = some (a, τ) ∧ Fr [6] σ τ ∧ ShC τ V ∧ ElC τ V F) (hg : ∀ τ, MF τ T U E → ∃ τ', g τ = some (a, τ') ∧ Fr [10, 16] τ τ' ∧ ShM τ' V ∧ ElM τ' V F) : OkB σ f g := by
  obtain ⟨hc, hm, hp, hx⟩ := h
  obtain ⟨τ, e1, f1, c1, c2⟩ := hf
  obtain ⟨τ', e2, f2, m1, m2⟩ := hg τ (hm.fr f1 rfl rfl rfl)
  have F' : Fr [6, 10, 16] σ τ' := (f1.mono rfl).tr (f2.mono rfl)
  exact ⟨a, τ, τ', e1, e2, T, V, F, ⟨hc.1.fr2 F' rfl, c1.fr f2 rfl, c2.fr f2 rfl⟩, ⟨hm.1.fr F' rfl, m1, m2, hm.2.2.2.fr F' rfl⟩, ⟨hp.1, hV⟩, hx.fr F' rfl⟩
theorem op_fault (h : RelT σ T U E) : OkB σ Nm_fault Md_fault := by
  refine ok_eq h (σ.1 0 10) rfl ?_
  rw [h.2.2.2.2.1]
  rfl
theorem op_trace (h : RelT σ T U E) (p1 : Int32) : OkB σ (Nm_trace p1) (Md_trace p1) := by
  obtain ⟨r, hr, t1, t2, t3, tz⟩ := h.2.2.2.2.2.2
  rcases pu_ix p1 20 (by omega) with h1 | h1 | ⟨i, hi, rfl⟩
  · refine ok_eq h (-nI 1) ?_ ?_
    · simp (disch := omega) only [Nm_trace, Mo_bodyAt, pl_0, pl_1, pl_2, pl_3, pl_4, pl_5, pl_6, pl_7, pl_8, pl_9, pl_10, pl_11, pl_12, pl_13, pl_14, pl_15, pl_16, pl_17, pl_18, pl_19, pl_20, pl_21, pl_30, pl_40, pl_50, pl_51, pl_60, pl_70, pl_71, pl_99, pl_100, pl_160, pl_240, pl_256, pl_300, pl_999, pl_1000, pl_1280, pl_9999, pl_10000, pu_neg, pu_nn, pu_le, pu_lt, pu_eq, pu_cl, pu_in, pu_g, pu_let, pu_bind, pu_m1, pu_add, pu_mul, Nat.not_lt_zero, if_false, if_true, Nat.zero_le, pu_d2, pu_d100, pu_em1, reduceIte, Nat.reduceEqDiff, Nat.reduceLT, Nat.reduceLeDiff, Nat.reduceAdd, Nat.reduceMul, Nat.reduceSub, not_true_eq_false, not_false_eq_true, and_true, true_and, and_false, false_and, or_true, true_or, or_false, false_or, Nat.lt_irrefl, Nat.le_refl, Nat.add_zero, Bool.false_eq_true, if_pos, if_neg, ngl h1, nge h1, ngle h1, nggt h1, ngne h1]
    · simp (disch := omega) only [Md_trace, pl_0, pl_1, pl_2, pl_3, pl_4, pl_5, pl_6, pl_7, pl_8, pl_9, pl_10, pl_11, pl_12, pl_13, pl_14, pl_15, pl_16, pl_17, pl_18, pl_19, pl_20, pl_21, pl_30, pl_40, pl_50, pl_51, pl_60, pl_70, pl_71, pl_99, pl_100, pl_160, pl_240, pl_256, pl_300, pl_999, pl_1000, pl_1280, pl_9999, pl_10000, pu_neg, pu_nn, pu_le, pu_lt, pu_eq, pu_cl, pu_in, pu_g, pu_let, pu_bind, pu_m1, pu_add, pu_mul, Nat.not_lt_zero, if_false, if_true, Nat.zero_le, pu_d2, pu_d100, pu_em1, reduceIte, Nat.reduceEqDiff, Nat.reduceLT, Nat.reduceLeDiff, Nat.reduceAdd, Nat.reduceMul, Nat.reduceSub, not_true_eq_false, not_false_eq_true, and_true, true_and, and_false, false_and, or_true, true_or, or_false, false_or, Nat.lt_irrefl, Nat.le_refl, Nat.add_zero, Bool.false_eq_true, if_pos, if_neg, ngl h1, nge h1, ngle h1, nggt h1, ngne h1]
  · refine ok_eq h (-nI 1) ?_ ?_
    · by_cases z : nI r ≤ p1
      · simp (disch := omega) only [Nm_trace, Mo_bodyAt, pl_0, pl_1, pl_2, pl_3, pl_4, pl_5, pl_6, pl_7, pl_8, pl_9, pl_10, pl_11, pl_12, pl_13, pl_14, pl_15, pl_16, pl_17, pl_18, pl_19, pl_20, pl_21, pl_30, pl_40, pl_50, pl_51, pl_60, pl_70, pl_71, pl_99, pl_100, pl_160, pl_240, pl_256, pl_300, pl_999, pl_1000, pl_1280, pl_9999, pl_10000, pu_neg, pu_nn, pu_le, pu_lt, pu_eq, pu_cl, pu_in, pu_g, pu_let, pu_bind, pu_m1, pu_add, pu_mul, Nat.not_lt_zero, if_false, if_true, Nat.zero_le, pu_d2, pu_d100, pu_em1, reduceIte, Nat.reduceEqDiff, Nat.reduceLT, Nat.reduceLeDiff, Nat.reduceAdd, Nat.reduceMul, Nat.reduceSub, not_true_eq_false, not_false_eq_true, and_true, true_and, and_false, false_and, or_true, true_or, or_false, false_or, Nat.lt_irrefl, Nat.le_refl, Nat.add_zero, Bool.false_eq_true, if_pos, if_neg, t1, z, bgl h1, bge h1, bgle h1, bggt h1, bgne h1, bgm1 h1]
      · simp (disch := omega) only [Nm_trace, Mo_bodyAt, pl_0, pl_1, pl_2, pl_3, pl_4, pl_5, pl_6, pl_7, pl_8, pl_9, pl_10, pl_11, pl_12, pl_13, pl_14, pl_15, pl_16, pl_17, pl_18, pl_19, pl_20, pl_21, pl_30, pl_40, pl_50, pl_51, pl_60, pl_70, pl_71, pl_99, pl_100, pl_160, pl_240, pl_256, pl_300, pl_999, pl_1000, pl_1280, pl_9999, pl_10000, pu_neg, pu_nn, pu_le, pu_lt, pu_eq, pu_cl, pu_in, pu_g, pu_let, pu_bind, pu_m1, pu_add, pu_mul, Nat.not_lt_zero, if_false, if_true, Nat.zero_le, pu_d2, pu_d100, pu_em1, reduceIte, Nat.reduceEqDiff, Nat.reduceLT, Nat.reduceLeDiff, Nat.reduceAdd, Nat.reduceMul, Nat.reduceSub, not_true_eq_false, not_false_eq_true, and_true, true_and, and_false, false_and, or_true, true_or, or_false, false_or, Nat.lt_irrefl, Nat.le_refl, Nat.add_zero, Bool.false_eq_true, if_pos, if_neg, t1, z, bgl h1, bge h1, bgle h1, bggt h1, bgne h1, bgm1 h1]
    · simp (disch := omega) only [Md_trace, pl_0, pl_1, pl_2, pl_3, pl_4, pl_5, pl_6, pl_7, pl_8, pl_9, pl_10, pl_11, pl_12, pl_13, pl_14, pl_15, pl_16, pl_17, pl_18, pl_19, pl_20, pl_21, pl_30, pl_40, pl_50, pl_51, pl_60, pl_70, pl_71, pl_99, pl_100, pl_160, pl_240, pl_256, pl_300, pl_999, pl_1000, pl_1280, pl_9999, pl_10000, pu_neg, pu_nn, pu_le, pu_lt, pu_eq, pu_cl, pu_in, pu_g, pu_let, pu_bind, pu_m1, pu_add, pu_mul, Nat.not_lt_zero, if_false, if_true, Nat.zero_le, pu_d2, pu_d100, pu_em1, reduceIte, Nat.reduceEqDiff, Nat.reduceLT, Nat.reduceLeDiff, Nat.reduceAdd, Nat.reduceMul, Nat.reduceSub, not_true_eq_false, not_false_eq_true, and_true, true_and, and_false, false_and, or_true, true_or, or_false, false_or, Nat.lt_irrefl, Nat.le_refl, Nat.add_zero, Bool.false_eq_true, if_pos, if_neg, bgl h1, bge h1, bgle h1, bggt h1, bgne h1, bgm1 h1]
  by_cases z : i < r
  · refine ok_eq h (σ.1 52 i) ?_ ?_
    · simp (disch := omega) only [Nm_trace, Mo_bodyAt, pl_0, pl_1, pl_2, pl_3, pl_4, pl_5, pl_6, pl_7, pl_8, pl_9, pl_10, pl_11, pl_12, pl_13, pl_14, pl_15, pl_16, pl_17, pl_18, pl_19, pl_20, pl_21, pl_30, pl_40, pl_50, pl_51, pl_60, pl_70, pl_71, pl_99, pl_100, pl_160, pl_240, pl_256, pl_300, pl_999, pl_1000, pl_1280, pl_9999, pl_10000, pu_neg, pu_nn, pu_le, pu_lt, pu_eq, pu_cl, pu_in, pu_g, pu_let, pu_bind, pu_m1, pu_add, pu_mul, Nat.not_lt_zero, if_false, if_true, Nat.zero_le, pu_d2, pu_d100, pu_em1, reduceIte, Nat.reduceEqDiff, Nat.reduceLT, Nat.reduceLeDiff, Nat.reduceAdd, Nat.reduceMul, Nat.reduceSub, not_true_eq_false, not_false_eq_true, and_true, true_and, and_false, false_and, or_true, true_or, or_false, false_or, Nat.lt_irrefl, Nat.le_refl, Nat.add_zero, Bool.false_eq_true, if_pos, if_neg, t1]
    · simp (disch := omega) only [Md_trace, pl_0, pl_1, pl_2, pl_3, pl_4, pl_5, pl_6, pl_7, pl_8, pl_9, pl_10, pl_11, pl_12, pl_13, pl_14, pl_15, pl_16, pl_17, pl_18, pl_19, pl_20, pl_21, pl_30, pl_40, pl_50, pl_51, pl_60, pl_70, pl_71, pl_99, pl_100, pl_160, pl_240, pl_256, pl_300, pl_999, pl_1000, pl_1280, pl_9999, pl_10000, pu_neg, pu_nn, pu_le, pu_lt, pu_eq, pu_cl, pu_in, pu_g, pu_let, pu_bind, pu_m1, pu_add, pu_mul, Nat.not_lt_zero, if_false, if_true, Nat.zero_le, pu_d2, pu_d100, pu_em1, reduceIte, Nat.reduceEqDiff, Nat.reduceLT, Nat.reduceLeDiff, Nat.reduceAdd, Nat.reduceMul, Nat.reduceSub, not_true_eq_false, not_false_eq_true, and_true, true_and, and_false, false_and, or_true, true_or, or_false, false_or, Nat.lt_irrefl, Nat.le_refl, Nat.add_zero, Bool.false_eq_true, if_pos, if_neg, t2, t3 i z hi]
  · refine ok_eq h (-nI 1) ?_ ?_
    · simp (disch := omega) only [Nm_trace, Mo_bodyAt, pl_0, pl_1, pl_2, pl_3, pl_4, pl_5, pl_6, pl_7, pl_8, pl_9, pl_10, pl_11, pl_12, pl_13, pl_14, pl_15, pl_16, pl_17, pl_18, pl_19, pl_20, pl_21, pl_30, pl_40, pl_50, pl_51, pl_60, pl_70, pl_71, pl_99, pl_100, pl_160, pl_240, pl_256, pl_300, pl_999, pl_1000, pl_1280, pl_9999, pl_10000, pu_neg, pu_nn, pu_le, pu_lt, pu_eq, pu_cl, pu_in, pu_g, pu_let, pu_bind, pu_m1, pu_add, pu_mul, Nat.not_lt_zero, if_false, if_true, Nat.zero_le, pu_d2, pu_d100, pu_em1, reduceIte, Nat.reduceEqDiff, Nat.reduceLT, Nat.reduceLeDiff, Nat.reduceAdd, Nat.reduceMul, Nat.reduceSub, not_true_eq_false, not_false_eq_true, and_true, true_and, and_false, false_and, or_true, true_or, or_false, false_or, Nat.lt_irrefl, Nat.le_refl, Nat.add_zero, Bool.false_eq_true, if_pos, if_neg, t1]
    · simp (disch := omega) only [Md_trace, pl_0, pl_1, pl_2, pl_3, pl_4, pl_5, pl_6, pl_7, pl_8, pl_9, pl_10, pl_11, pl_12, pl_13, pl_14, pl_15, pl_16, pl_17, pl_18, pl_19, pl_20, pl_21, pl_30, pl_40, pl_50, pl_51, pl_60, pl_70, pl_71, pl_99, pl_100, pl_160, pl_240, pl_256, pl_300, pl_999, pl_1000, pl_1280, pl_9999, pl_10000, pu_neg, pu_nn, pu_le, pu_lt, pu_eq, pu_cl, pu_in, pu_g, pu_let, pu_bind, pu_m1, pu_add, pu_mul, Nat.not_lt_zero, if_false, if_true, Nat.zero_le, pu_d2, pu_d100, pu_em1, reduceIte, Nat.reduceEqDiff, Nat.reduceLT, Nat.reduceLeDiff, Nat.reduceAdd, Nat.reduceMul, Nat.reduceSub, not_true_eq_false, not_false_eq_true, and_true, true_and, and_false, false_and, or_true, true_or, or_false, false_or, Nat.lt_irrefl, Nat.le_refl, Nat.add_zero, Bool.false_eq_true, if_pos, if_neg, t2]
theorem op_status (h : RelT σ T U E) (p1 : Int32) : OkB σ (Nm_status p1) (Md_status p1) := by
  have hI := h.2.2.1.1
  obtain ⟨r, hr, t1, t2, t3, tz⟩ := h.2.2.2.2.2.2
  have hc := h.1.1
  have hm := h.2.1.1
  rcases pu_ix p1 18 (by omega) with h1 | h1 | ⟨i, hi, rfl⟩
  · refine ok_eq h (-nI 1) ?_ ?_
    · simp (disch := omega) only [Nm_status, Nm_isWithin, pl_0, pl_1, pl_2, pl_3, pl_4, pl_5, pl_6, pl_7, pl_8, pl_9, pl_10, pl_11, pl_12, pl_13, pl_14, pl_15, pl_16, pl_17, pl_18, pl_19, pl_20, pl_21, pl_30, pl_40, pl_50, pl_51, pl_60, pl_70, pl_71, pl_99, pl_100, pl_160, pl_240, pl_256, pl_300, pl_999, pl_1000, pl_1280, pl_9999, pl_10000, pu_neg, pu_nn, pu_le, pu_lt, pu_eq, pu_cl, pu_in, pu_g, pu_let, pu_bind, pu_m1, pu_add, pu_mul, Nat.not_lt_zero, if_false, if_true, Nat.zero_le, pu_d2, pu_d100, pu_em1, reduceIte, Nat.reduceEqDiff, Nat.reduceLT, Nat.reduceLeDiff, Nat.reduceAdd, Nat.reduceMul, Nat.reduceSub, not_true_eq_false, not_false_eq_true, and_true, true_and, and_false, false_and, or_true, true_or, or_false, false_or, Nat.lt_irrefl, Nat.le_refl, Nat.add_zero, Bool.false_eq_true, if_pos, if_neg, ngl h1, nge h1, ngle h1, nggt h1, ngne h1, show (17 : Int32) = nI 17 from rfl]
    · simp (disch := omega) only [Md_status, Md_status_j22, pl_0, pl_1, pl_2, pl_3, pl_4, pl_5, pl_6, pl_7, pl_8, pl_9, pl_10, pl_11, pl_12, pl_13, pl_14, pl_15, pl_16, pl_17, pl_18, pl_19, pl_20, pl_21, pl_30, pl_40, pl_50, pl_51, pl_60, pl_70, pl_71, pl_99, pl_100, pl_160, pl_240, pl_256, pl_300, pl_999, pl_1000, pl_1280, pl_9999, pl_10000, pu_neg, pu_nn, pu_le, pu_lt, pu_eq, pu_cl, pu_in, pu_g, pu_let, pu_bind, pu_m1, pu_add, pu_mul, Nat.not_lt_zero, if_false, if_true, Nat.zero_le, pu_d2, pu_d100, pu_em1, reduceIte, Nat.reduceEqDiff, Nat.reduceLT, Nat.reduceLeDiff, Nat.reduceAdd, Nat.reduceMul, Nat.reduceSub, not_true_eq_false, not_false_eq_true, and_true, true_and, and_false, false_and, or_true, true_or, or_false, false_or, Nat.lt_irrefl, Nat.le_refl, Nat.add_zero, Bool.false_eq_true, if_pos, if_neg, ngl h1, nge h1, ngle h1, nggt h1, ngne h1]
  · refine ok_eq h (-nI 1) ?_ ?_
    · simp (disch := omega) only [Nm_status, Nm_isWithin, pl_0, pl_1, pl_2, pl_3, pl_4, pl_5, pl_6, pl_7, pl_8, pl_9, pl_10, pl_11, pl_12, pl_13, pl_14, pl_15, pl_16, pl_17, pl_18, pl_19, pl_20, pl_21, pl_30, pl_40, pl_50, pl_51, pl_60, pl_70, pl_71, pl_99, pl_100, pl_160, pl_240, pl_256, pl_300, pl_999, pl_1000, pl_1280, pl_9999, pl_10000, pu_neg, pu_nn, pu_le, pu_lt, pu_eq, pu_cl, pu_in, pu_g, pu_let, pu_bind, pu_m1, pu_add, pu_mul, Nat.not_lt_zero, if_false, if_true, Nat.zero_le, pu_d2, pu_d100, pu_em1, reduceIte, Nat.reduceEqDiff, Nat.reduceLT, Nat.reduceLeDiff, Nat.reduceAdd, Nat.reduceMul, Nat.reduceSub, not_true_eq_false, not_false_eq_true, and_true, true_and, and_false, false_and, or_true, true_or, or_false, false_or, Nat.lt_irrefl, Nat.le_refl, Nat.add_zero, Bool.false_eq_true, if_pos, if_neg, bgl h1, bge h1, bgle h1, bggt h1, bgne h1, bgm1 h1]
    · simp (disch := omega) only [Md_status, Md_status_j22, pl_0, pl_1, pl_2, pl_3, pl_4, pl_5, pl_6, pl_7, pl_8, pl_9, pl_10, pl_11, pl_12, pl_13, pl_14, pl_15, pl_16, pl_17, pl_18, pl_19, pl_20, pl_21, pl_30, pl_40, pl_50, pl_51, pl_60, pl_70, pl_71, pl_99, pl_100, pl_160, pl_240, pl_256, pl_300, pl_999, pl_1000, pl_1280, pl_9999, pl_10000, pu_neg, pu_nn, pu_le, pu_lt, pu_eq, pu_cl, pu_in, pu_g, pu_let, pu_bind, pu_m1, pu_add, pu_mul, Nat.not_lt_zero, if_false, if_true, Nat.zero_le, pu_d2, pu_d100, pu_em1, reduceIte, Nat.reduceEqDiff, Nat.reduceLT, Nat.reduceLeDiff, Nat.reduceAdd, Nat.reduceMul, Nat.reduceSub, not_true_eq_false, not_false_eq_true, and_true, true_and, and_false, false_and, or_true, true_or, or_false, false_or, Nat.lt_irrefl, Nat.le_refl, Nat.add_zero, Bool.false_eq_true, if_pos, if_neg, bgl h1, bge h1, bgle h1, bggt h1, bgne h1, bgm1 h1]
  by_cases hhi : 11 ≤ i
  · refine ok_eq h (σ.1 53 (i - 10)) ?_ ?_
    · simp (disch := omega) only [Nm_status, Nm_isWithin, pl_0, pl_1, pl_2, pl_3, pl_4, pl_5, pl_6, pl_7, pl_8, pl_9, pl_10, pl_11, pl_12, pl_13, pl_14, pl_15, pl_16, pl_17, pl_18, pl_19, pl_20, pl_21, pl_30, pl_40, pl_50, pl_51, pl_60, pl_70, pl_71, pl_99, pl_100, pl_160, pl_240, pl_256, pl_300, pl_999, pl_1000, pl_1280, pl_9999, pl_10000, pu_neg, pu_nn, pu_le, pu_lt, pu_eq, pu_cl, pu_in, pu_g, pu_let, pu_bind, pu_m1, pu_add, pu_mul, Nat.not_lt_zero, if_false, if_true, Nat.zero_le, pu_d2, pu_d100, pu_em1, reduceIte, Nat.reduceEqDiff, Nat.reduceLT, Nat.reduceLeDiff, Nat.reduceAdd, Nat.reduceMul, Nat.reduceSub, not_true_eq_false, not_false_eq_true, and_true, true_and, and_false, false_and, or_true, true_or, or_false, false_or, Nat.lt_irrefl, Nat.le_refl, Nat.add_zero, Bool.false_eq_true, if_pos, if_neg, pk_sub]
    · simp (disch := omega) only [Md_status, pl_0, pl_1, pl_2, pl_3, pl_4, pl_5, pl_6, pl_7, pl_8, pl_9, pl_10, pl_11, pl_12, pl_13, pl_14, pl_15, pl_16, pl_17, pl_18, pl_19, pl_20, pl_21, pl_30, pl_40, pl_50, pl_51, pl_60, pl_70, pl_71, pl_99, pl_100, pl_160, pl_240, pl_256, pl_300, pl_999, pl_1000, pl_1280, pl_9999, pl_10000, pu_neg, pu_nn, pu_le, pu_lt, pu_eq, pu_cl, pu_in, pu_g, pu_let, pu_bind, pu_m1, pu_add, pu_mul, Nat.not_lt_zero, if_false, if_true, Nat.zero_le, pu_d2, pu_d100, pu_em1, reduceIte, Nat.reduceEqDiff, Nat.reduceLT, Nat.reduceLeDiff, Nat.reduceAdd, Nat.reduceMul, Nat.reduceSub, not_true_eq_false, not_false_eq_true, and_true, true_and, and_false, false_and, or_true, true_or, or_false, false_or, Nat.lt_irrefl, Nat.le_refl, Nat.add_zero, Bool.false_eq_true, if_pos, if_neg, pk_sub, h.2.2.2.2.2.1 (i - 10) (by omega) (by omega)]
  have b0 := bts8 (atB T 0)
  have b1 := bts8 (atB T 1)
  have b3 := bts8 (atB T 3)
  have hi11 : i = 0 ∨ i = 1 ∨ i = 2 ∨ i = 3 ∨ i = 4 ∨ i = 5 ∨ i = 6 ∨ i = 7 ∨ i = 8 ∨ i = 9 ∨ i = 10 := by omega
  have kc0 := is_thoseAt hc hI (show 0 ≤ 3 by omega)
  have kc1 := is_thoseAt hc hI (show 1 ≤ 3 by omega)
  have kc3 := is_thoseAt hc hI (show 3 ≤ 3 by omega)
  have km0 := md_those hm hI (show 0 ≤ 3 by omega)
  have km1 := md_those hm hI (show 1 ≤ 3 by omega)
  have km3 := md_those hm hI (show 3 ≤ 3 by omega)
  have ko0 := md_ones (σ := σ) (s := bts (atB T 0) 8) (by omega)
  have ko1 := md_ones (σ := σ) (s := bts (atB T 1) 8) (by omega)
  have ko3 := md_ones (σ := σ) (s := bts (atB T 3) 8) (by omega)
  refine ok_eq h (if i = 0 then nI (T 0 6) else if i = 1 then nI (T 0 7) else if i = 2 then nI (pcN (bts (atB T 0) 8)) else if i = 3 then nI (pcN (bts (atB T 1) 8)) else if i = 4 then nI (pcN (bts (atB T 3) 8)) else if i = 5 then nI (T 0 8) else if i = 6 then nI (T 0 9) else if i = 7 then nI (T 0 10) else if i = 8 then nI (T 0 11) else if i = 9 then nI r else -nI 1) ?_ ?_
  · rcases hi11 with rfl | rfl | rfl | rfl | rfl | rfl | rfl | rfl | rfl | rfl | rfl
    all_goals simp (disch := omega) only [Nm_status, Nm_isWithin, pl_0, pl_1, pl_2, pl_3, pl_4, pl_5, pl_6, pl_7, pl_8, pl_9, pl_10, pl_11, pl_12, pl_13, pl_14, pl_15, pl_16, pl_17, pl_18, pl_19, pl_20, pl_21, pl_30, pl_40, pl_50, pl_51, pl_60, pl_70, pl_71, pl_99, pl_100, pl_160, pl_240, pl_256, pl_300, pl_999, pl_1000, pl_1280, pl_9999, pl_10000, pu_neg, pu_nn, pu_le, pu_lt, pu_eq, pu_cl, pu_in, pu_g, pu_let, pu_bind, pu_m1, pu_add, pu_mul, Nat.not_lt_zero, if_false, if_true, Nat.zero_le, pu_d2, pu_d100, pu_em1, reduceIte, Nat.reduceEqDiff, Nat.reduceLT, Nat.reduceLeDiff, Nat.reduceAdd, Nat.reduceMul, Nat.reduceSub, not_true_eq_false, not_false_eq_true, and_true, true_and, and_false, false_and, or_true, true_or, or_false, false_or, Nat.lt_irrefl, Nat.le_refl, Nat.add_zero, Bool.false_eq_true, if_pos, if_neg, kc0, kc1, kc3, ji_bc b0, ji_bc b1, ji_bc b3, hc.c, hc.p, hc.f, hc.q, hc.mo, hc.se, t1]
  · rcases hi11 with rfl | rfl | rfl | rfl | rfl | rfl | rfl | rfl | rfl | rfl | rfl
    all_goals simp (disch := omega) only [Md_status, Md_status_j22, pl_0, pl_1, pl_2, pl_3, pl_4, pl_5, pl_6, pl_7, pl_8, pl_9, pl_10, pl_11, pl_12, pl_13, pl_14, pl_15, pl_16, pl_17, pl_18, pl_19, pl_20, pl_21, pl_30, pl_40, pl_50, pl_51, pl_60, pl_70, pl_71, pl_99, pl_100, pl_160, pl_240, pl_256, pl_300, pl_999, pl_1000, pl_1280, pl_9999, pl_10000, pu_neg, pu_nn, pu_le, pu_lt, pu_eq, pu_cl, pu_in, pu_g, pu_let, pu_bind, pu_m1, pu_add, pu_mul, Nat.not_lt_zero, if_false, if_true, Nat.zero_le, pu_d2, pu_d100, pu_em1, reduceIte, Nat.reduceEqDiff, Nat.reduceLT, Nat.reduceLeDiff, Nat.reduceAdd, Nat.reduceMul, Nat.reduceSub, not_true_eq_false, not_false_eq_true, and_true, true_and, and_false, false_and, or_true, true_or, or_false, false_or, Nat.lt_irrefl, Nat.le_refl, Nat.add_zero, Bool.false_eq_true, if_pos, if_neg, km0, km1, km3, ko0, ko1, ko3, hm.c, hm.p, hm.f, hm.q, hm.mo, hm.se, t2]
/-- a shelf emptied, or with a maker -/
def shoU (U : is_T) (s h m : Nat) : is_T := nm_up (nm_up (nm_up U 0 s h) 2 s 0) 3 s m
theorem sho_I {c : Nat} (hU : ShI U c) {s h m : Nat} (hh : h = 0 ∨ (h = 2 ∧ m < c)) : ShI (shoU U s h m) c := by
  intro s' hs'
  have := hU s' hs'
  unfold shoU
  simp only [up_at]
  by_cases e : s' = s
  · subst e
    simp
    omega
  · simp [e]
    exact this
theorem op_show (h : RelT σ T U E) (p1 p2 : Int32) : OkB σ (Nm_show p1 p2) (Md_show p1 p2) := by
  have hP := h.2.2.1
  have hI := hP.1
  have hc := hI.1
  rcases pu_ix p1 8 (by omega) with h1 | h1 | ⟨s, hs, rfl⟩
  · refine ok_q h ?_
    exact qno (b := -nI 1) 1 (by omega) (by omega) (fun σ h => by simp (disch := omega) only [Nm_show, Nm_isShelf, pl_0, pl_1, pl_2, pl_3, pl_4, pl_5, pl_6, pl_7, pl_8, pl_9, pl_10, pl_11, pl_12, pl_13, pl_14, pl_15, pl_16, pl_17, pl_18, pl_19, pl_20, pl_21, pl_30, pl_40, pl_50, pl_51, pl_60, pl_70, pl_71, pl_99, pl_100, pl_160, pl_240, pl_256, pl_300, pl_999, pl_1000, pl_1280, pl_9999, pl_10000, pu_neg, pu_nn, pu_le, pu_lt, pu_eq, pu_cl, pu_in, pu_g, pu_let, pu_bind, pu_m1, pu_add, pu_mul, Nat.not_lt_zero, if_false, if_true, Nat.zero_le, pu_d2, pu_d100, pu_em1, reduceIte, Nat.reduceEqDiff, Nat.reduceLT, Nat.reduceLeDiff, Nat.reduceAdd, Nat.reduceMul, Nat.reduceSub, not_true_eq_false, not_false_eq_true, and_true, true_and, and_false, false_and, or_true, true_or, or_false, false_or, Nat.lt_irrefl, Nat.le_refl, Nat.add_zero, Bool.false_eq_true, if_pos, if_neg, ngl h1, nge h1, ngle h1, nggt h1, ngne h1, nm_ref]) (fun σ h => by simp (disch := omega) only [Md_show, Md_isShelf, pl_0, pl_1, pl_2, pl_3, pl_4, pl_5, pl_6, pl_7, pl_8, pl_9, pl_10, pl_11, pl_12, pl_13, pl_14, pl_15, pl_16, pl_17, pl_18, pl_19, pl_20, pl_21, pl_30, pl_40, pl_50, pl_51, pl_60, pl_70, pl_71, pl_99, pl_100, pl_160, pl_240, pl_256, pl_300, pl_999, pl_1000, pl_1280, pl_9999, pl_10000, pu_neg, pu_nn, pu_le, pu_lt, pu_eq, pu_cl, pu_in, pu_g, pu_let, pu_bind, pu_m1, pu_add, pu_mul, Nat.not_lt_zero, if_false, if_true, Nat.zero_le, pu_d2, pu_d100, pu_em1, reduceIte, Nat.reduceEqDiff, Nat.reduceLT, Nat.reduceLeDiff, Nat.reduceAdd, Nat.reduceMul, Nat.reduceSub, not_true_eq_false, not_false_eq_true, and_true, true_and, and_false, false_and, or_true, true_or, or_false, false_or, Nat.lt_irrefl, Nat.le_refl, Nat.add_zero, Bool.false_eq_true, if_pos, if_neg, ngl h1, nge h1, ngle h1, nggt h1, ngne h1, md_no])
  · refine ok_q h ?_
    exact qno (b := -nI 1) 1 (by omega) (by omega) (fun σ h => by simp (disch := omega) only [Nm_show, Nm_isShelf, pl_0, pl_1, pl_2, pl_3, pl_4, pl_5, pl_6, pl_7, pl_8, pl_9, pl_10, pl_11, pl_12, pl_13, pl_14, pl_15, pl_16, pl_17, pl_18, pl_19, pl_20, pl_21, pl_30, pl_40, pl_50, pl_51, pl_60, pl_70, pl_71, pl_99, pl_100, pl_160, pl_240, pl_256, pl_300, pl_999, pl_1000, pl_1280, pl_9999, pl_10000, pu_neg, pu_nn, pu_le, pu_lt, pu_eq, pu_cl, pu_in, pu_g, pu_let, pu_bind, pu_m1, pu_add, pu_mul, Nat.not_lt_zero, if_false, if_true, Nat.zero_le, pu_d2, pu_d100, pu_em1, reduceIte, Nat.reduceEqDiff, Nat.reduceLT, Nat.reduceLeDiff, Nat.reduceAdd, Nat.reduceMul, Nat.reduceSub, not_true_eq_false, not_false_eq_true, and_true, true_and, and_false, false_and, or_true, true_or, or_false, false_or, Nat.lt_irrefl, Nat.le_refl, Nat.add_zero, Bool.false_eq_true, if_pos, if_neg, bgl h1, bge h1, bgle h1, bggt h1, bgne h1, bgm1 h1, nm_ref]) (fun σ h => by simp (disch := omega) only [Md_show, Md_isShelf, pl_0, pl_1, pl_2, pl_3, pl_4, pl_5, pl_6, pl_7, pl_8, pl_9, pl_10, pl_11, pl_12, pl_13, pl_14, pl_15, pl_16, pl_17, pl_18, pl_19, pl_20, pl_21, pl_30, pl_40, pl_50, pl_51, pl_60, pl_70, pl_71, pl_99, pl_100, pl_160, pl_240, pl_256, pl_300, pl_999, pl_1000, pl_1280, pl_9999, pl_10000, pu_neg, pu_nn, pu_le, pu_lt, pu_eq, pu_cl, pu_in, pu_g, pu_let, pu_bind, pu_m1, pu_add, pu_mul, Nat.not_lt_zero, if_false, if_true, Nat.zero_le, pu_d2, pu_d100, pu_em1, reduceIte, Nat.reduceEqDiff, Nat.reduceLT, Nat.reduceLeDiff, Nat.reduceAdd, Nat.reduceMul, Nat.reduceSub, not_true_eq_false, not_false_eq_true, and_true, true_and, and_false, false_and, or_true, true_or, or_false, false_or, Nat.lt_irrefl, Nat.le_refl, Nat.add_zero, Bool.false_eq_true, if_pos, if_neg, bgl h1, bge h1, bgle h1, bggt h1, bgne h1, bgm1 h1, md_no])
  have elc : ∀ (τ : nm_St) (hh m : Nat), Fr [6] σ τ → τ.2 = σ.2 → ElC τ (shoU U s hh m) E := by
    intro τ hh m hf h2 s' i hs' hi
    rw [h2]
    refine h.1.el hs' ?_
    unfold shoU at hi
    simp only [up_at] at hi
    by_cases e : s' = s
    · subst e; simp at hi
    · simpa [e] using hi
  have elm : ∀ (τ ρ : nm_St) (hh m : Nat), MF ρ T U E → τ.2 = ρ.2 → ElM τ (shoU U s hh m) E := by
    intro τ ρ hh m hf h2 s' i hs' hi
    rw [h2]
    refine hf.el hs' ?_
    unfold shoU at hi
    simp only [up_at] at hi
    by_cases e : s' = s
    · subst e; simp at hi
    · simpa [e] using hi
  have shc : ∀ (hh m : Nat) (x : Int32), x = (if hh = 2 then nI m else -nI 1) → ShC (nm_pI (nm_pI (nm_pI σ (54 + 2 * s) 1 (nI hh)) (54 + 2 * s) 3 (nI 0)) (54 + 2 * s) 4 x) (shoU U s hh m) := by
    intro hh m x hx s' hs'
    unfold shoU
    simp only [up_at]
    by_cases e : s' = s
    · subst e
      simp (disch := omega) only [pI_ne, pI_eq, h.1.held hs', h.1.sort hs']
      simp [hx]
    · have := h.1.2.1 s' hs'
      simp (disch := omega) only [pI_ne]
      simpa [e] using this
  have shm : ∀ (ρ : nm_St) (hh m : Nat) (x : Int32), MF ρ T U E → hh ≠ 1 → (hh = 2 → x = nI m) → ShM (nm_pI (nm_pI ρ 78 s (nI hh)) 81 s x) (shoU U s hh m) := by
    intro ρ hh m x hr h1 hx s' hs'
    unfold shoU
    simp only [up_at]
    by_cases e : s' = s
    · subst e
      simp (disch := omega) only [pI_ne, pI_eq, hr.sort hs']
      simp [h1]
      exact hx
    · have := hr.2.1 s' hs'
      simp (disch := omega) only [pI_ne]
      simpa [e] using this
  have frc : ∀ (a b c : Int32), Fr [6] σ (nm_pI (nm_pI (nm_pI σ (54 + 2 * s) 1 a) (54 + 2 * s) 3 b) (54 + 2 * s) 4 c) := fun a b c => (((Fr.rf _ _).pI _ (by rw [(rg_sh hs _).1]; rfl)).pI _ (by rw [(rg_sh hs _).1]; rfl)).pI _ (by rw [(rg_sh hs _).1]; rfl)
  have frm : ∀ (ρ : nm_St) (a b : Int32), Fr [10, 16] ρ (nm_pI (nm_pI ρ 78 s a) 81 s b) := fun ρ a b => ((Fr.rf _ _).pI _ rfl).pI _ rfl
  by_cases hz : p2 = -nI 1
  · subst hz
    refine ok_s h (nI 0) (shoU U s 0 0) E (sho_I hP.2 (Or.inl rfl)) ⟨_, ?_, frc _ _ _, shc 0 0 (-nI 1) (by simp), elc _ 0 0 (frc _ _ _) rfl⟩ (fun τ hτ => ⟨_, ?_, frm τ _ _, shm τ 0 0 (-nI 1) hτ (by omega) (by omega), elm _ τ 0 0 hτ rfl⟩)
    · simp (disch := omega) only [Nm_show, Nm_show_j29, Nm_isShelf, Sh_holdNothing, pl_0, pl_1, pl_2, pl_3, pl_4, pl_5, pl_6, pl_7, pl_8, pl_9, pl_10, pl_11, pl_12, pl_13, pl_14, pl_15, pl_16, pl_17, pl_18, pl_19, pl_20, pl_21, pl_30, pl_40, pl_50, pl_51, pl_60, pl_70, pl_71, pl_99, pl_100, pl_160, pl_240, pl_256, pl_300, pl_999, pl_1000, pl_1280, pl_9999, pl_10000, pu_neg, pu_nn, pu_le, pu_lt, pu_eq, pu_cl, pu_in, pu_g, pu_let, pu_bind, pu_m1, pu_add, pu_mul, Nat.not_lt_zero, if_false, if_true, Nat.zero_le, pu_d2, pu_d100, pu_em1, reduceIte, Nat.reduceEqDiff, Nat.reduceLT, Nat.reduceLeDiff, Nat.reduceAdd, Nat.reduceMul, Nat.reduceSub, not_true_eq_false, not_false_eq_true, and_true, true_and, and_false, false_and, or_true, true_or, or_false, false_or, Nat.lt_irrefl, Nat.le_refl, Nat.add_zero, Bool.false_eq_true, if_pos, if_neg, sf_n]
    · simp (disch := omega) only [Md_show, Md_show_j27, Md_show_j42, Md_isShelf, pl_0, pl_1, pl_2, pl_3, pl_4, pl_5, pl_6, pl_7, pl_8, pl_9, pl_10, pl_11, pl_12, pl_13, pl_14, pl_15, pl_16, pl_17, pl_18, pl_19, pl_20, pl_21, pl_30, pl_40, pl_50, pl_51, pl_60, pl_70, pl_71, pl_99, pl_100, pl_160, pl_240, pl_256, pl_300, pl_999, pl_1000, pl_1280, pl_9999, pl_10000, pu_neg, pu_nn, pu_le, pu_lt, pu_eq, pu_cl, pu_in, pu_g, pu_let, pu_bind, pu_m1, pu_add, pu_mul, Nat.not_lt_zero, if_false, if_true, Nat.zero_le, pu_d2, pu_d100, pu_em1, reduceIte, Nat.reduceEqDiff, Nat.reduceLT, Nat.reduceLeDiff, Nat.reduceAdd, Nat.reduceMul, Nat.reduceSub, not_true_eq_false, not_false_eq_true, and_true, true_and, and_false, false_and, or_true, true_or, or_false, false_or, Nat.lt_irrefl, Nat.le_refl, Nat.add_zero, Bool.false_eq_true, if_pos, if_neg]
  rcases is_ix p2 hI with h2 | h2 | ⟨m, hm, rfl⟩
  · refine ok_q h ?_
    exact qno (b := -nI 1) 1 (by omega) (by omega) (fun σ h => by simp (disch := omega) only [Nm_show, Nm_isShelf, pl_0, pl_1, pl_2, pl_3, pl_4, pl_5, pl_6, pl_7, pl_8, pl_9, pl_10, pl_11, pl_12, pl_13, pl_14, pl_15, pl_16, pl_17, pl_18, pl_19, pl_20, pl_21, pl_30, pl_40, pl_50, pl_51, pl_60, pl_70, pl_71, pl_99, pl_100, pl_160, pl_240, pl_256, pl_300, pl_999, pl_1000, pl_1280, pl_9999, pl_10000, pu_neg, pu_nn, pu_le, pu_lt, pu_eq, pu_cl, pu_in, pu_g, pu_let, pu_bind, pu_m1, pu_add, pu_mul, Nat.not_lt_zero, if_false, if_true, Nat.zero_le, pu_d2, pu_d100, pu_em1, reduceIte, Nat.reduceEqDiff, Nat.reduceLT, Nat.reduceLeDiff, Nat.reduceAdd, Nat.reduceMul, Nat.reduceSub, not_true_eq_false, not_false_eq_true, and_true, true_and, and_false, false_and, or_true, true_or, or_false, false_or, Nat.lt_irrefl, Nat.le_refl, Nat.add_zero, Bool.false_eq_true, if_pos, if_neg, hz, is_isMaker_n h.1 hI (Or.inl h2), nm_ref]) (fun σ h => by simp (disch := omega) only [Md_show, Md_isShelf, pl_0, pl_1, pl_2, pl_3, pl_4, pl_5, pl_6, pl_7, pl_8, pl_9, pl_10, pl_11, pl_12, pl_13, pl_14, pl_15, pl_16, pl_17, pl_18, pl_19, pl_20, pl_21, pl_30, pl_40, pl_50, pl_51, pl_60, pl_70, pl_71, pl_99, pl_100, pl_160, pl_240, pl_256, pl_300, pl_999, pl_1000, pl_1280, pl_9999, pl_10000, pu_neg, pu_nn, pu_le, pu_lt, pu_eq, pu_cl, pu_in, pu_g, pu_let, pu_bind, pu_m1, pu_add, pu_mul, Nat.not_lt_zero, if_false, if_true, Nat.zero_le, pu_d2, pu_d100, pu_em1, reduceIte, Nat.reduceEqDiff, Nat.reduceLT, Nat.reduceLeDiff, Nat.reduceAdd, Nat.reduceMul, Nat.reduceSub, not_true_eq_false, not_false_eq_true, and_true, true_and, and_false, false_and, or_true, true_or, or_false, false_or, Nat.lt_irrefl, Nat.le_refl, Nat.add_zero, Bool.false_eq_true, if_pos, if_neg, hz, md_isMaker_n h.1 (Or.inl h2), md_no])
  · refine ok_q h ?_
    exact qno (b := -nI 1) 1 (by omega) (by omega) (fun σ h => by simp (disch := omega) only [Nm_show, Nm_isShelf, pl_0, pl_1, pl_2, pl_3, pl_4, pl_5, pl_6, pl_7, pl_8, pl_9, pl_10, pl_11, pl_12, pl_13, pl_14, pl_15, pl_16, pl_17, pl_18, pl_19, pl_20, pl_21, pl_30, pl_40, pl_50, pl_51, pl_60, pl_70, pl_71, pl_99, pl_100, pl_160, pl_240, pl_256, pl_300, pl_999, pl_1000, pl_1280, pl_9999, pl_10000, pu_neg, pu_nn, pu_le, pu_lt, pu_eq, pu_cl, pu_in, pu_g, pu_let, pu_bind, pu_m1, pu_add, pu_mul, Nat.not_lt_zero, if_false, if_true, Nat.zero_le, pu_d2, pu_d100, pu_em1, reduceIte, Nat.reduceEqDiff, Nat.reduceLT, Nat.reduceLeDiff, Nat.reduceAdd, Nat.reduceMul, Nat.reduceSub, not_true_eq_false, not_false_eq_true, and_true, true_and, and_false, false_and, or_true, true_or, or_false, false_or, Nat.lt_irrefl, Nat.le_refl, Nat.add_zero, Bool.false_eq_true, if_pos, if_neg, hz, is_isMaker_n h.1 hI (Or.inr h2), nm_ref]) (fun σ h => by simp (disch := omega) only [Md_show, Md_isShelf, pl_0, pl_1, pl_2, pl_3, pl_4, pl_5, pl_6, pl_7, pl_8, pl_9, pl_10, pl_11, pl_12, pl_13, pl_14, pl_15, pl_16, pl_17, pl_18, pl_19, pl_20, pl_21, pl_30, pl_40, pl_50, pl_51, pl_60, pl_70, pl_71, pl_99, pl_100, pl_160, pl_240, pl_256, pl_300, pl_999, pl_1000, pl_1280, pl_9999, pl_10000, pu_neg, pu_nn, pu_le, pu_lt, pu_eq, pu_cl, pu_in, pu_g, pu_let, pu_bind, pu_m1, pu_add, pu_mul, Nat.not_lt_zero, if_false, if_true, Nat.zero_le, pu_d2, pu_d100, pu_em1, reduceIte, Nat.reduceEqDiff, Nat.reduceLT, Nat.reduceLeDiff, Nat.reduceAdd, Nat.reduceMul, Nat.reduceSub, not_true_eq_false, not_false_eq_true, and_true, true_and, and_false, false_and, or_true, true_or, or_false, false_or, Nat.lt_irrefl, Nat.le_refl, Nat.add_zero, Bool.false_eq_true, if_pos, if_neg, hz, md_isMaker_n h.1 (Or.inr h2), md_no])
  refine ok_s h (nI 1) (shoU U s 2 m) E (sho_I hP.2 (Or.inr ⟨rfl, hm⟩)) ⟨_, ?_, frc _ _ _, shc 2 m (nI m) (by simp), elc _ 2 m (frc _ _ _) rfl⟩ (fun τ hτ => ⟨_, ?_, frm τ _ _, shm τ 2 m (nI m) hτ (by omega) (fun _ => rfl), elm _ τ 2 m hτ rfl⟩)
  · simp (disch := omega) only [Nm_show, Nm_show_j29, Nm_isShelf, Sh_holdMaker, pl_0, pl_1, pl_2, pl_3, pl_4, pl_5, pl_6, pl_7, pl_8, pl_9, pl_10, pl_11, pl_12, pl_13, pl_14, pl_15, pl_16, pl_17, pl_18, pl_19, pl_20, pl_21, pl_30, pl_40, pl_50, pl_51, pl_60, pl_70, pl_71, pl_99, pl_100, pl_160, pl_240, pl_256, pl_300, pl_999, pl_1000, pl_1280, pl_9999, pl_10000, pu_neg, pu_nn, pu_le, pu_lt, pu_eq, pu_cl, pu_in, pu_g, pu_let, pu_bind, pu_m1, pu_add, pu_mul, Nat.not_lt_zero, if_false, if_true, Nat.zero_le, pu_d2, pu_d100, pu_em1, reduceIte, Nat.reduceEqDiff, Nat.reduceLT, Nat.reduceLeDiff, Nat.reduceAdd, Nat.reduceMul, Nat.reduceSub, not_true_eq_false, not_false_eq_true, and_true, true_and, and_false, false_and, or_true, true_or, or_false, false_or, Nat.lt_irrefl, Nat.le_refl, Nat.add_zero, Bool.false_eq_true, if_pos, if_neg, sf_n, is_isMaker_v h.1.1 hI hm]
  · simp (disch := omega) only [Md_show, Md_show_j27, Md_show_j42, Md_isShelf, pl_0, pl_1, pl_2, pl_3, pl_4, pl_5, pl_6, pl_7, pl_8, pl_9, pl_10, pl_11, pl_12, pl_13, pl_14, pl_15, pl_16, pl_17, pl_18, pl_19, pl_20, pl_21, pl_30, pl_40, pl_50, pl_51, pl_60, pl_70, pl_71, pl_99, pl_100, pl_160, pl_240, pl_256, pl_300, pl_999, pl_1000, pl_1280, pl_9999, pl_10000, pu_neg, pu_nn, pu_le, pu_lt, pu_eq, pu_cl, pu_in, pu_g, pu_let, pu_bind, pu_m1, pu_add, pu_mul, Nat.not_lt_zero, if_false, if_true, Nat.zero_le, pu_d2, pu_d100, pu_em1, reduceIte, Nat.reduceEqDiff, Nat.reduceLT, Nat.reduceLeDiff, Nat.reduceAdd, Nat.reduceMul, Nat.reduceSub, not_true_eq_false, not_false_eq_true, and_true, true_and, and_false, false_and, or_true, true_or, or_false, false_or, Nat.lt_irrefl, Nat.le_refl, Nat.add_zero, Bool.false_eq_true, if_pos, if_neg, md_isMaker_v hτ.1 hI hm]
/-- a new row -/
def rowU (U : is_T) (s o n : Nat) : is_T := nm_up (nm_up (nm_up U 0 s 1) 1 s o) 2 s n
def rowE (E : Nat → Nat → Int64) (s : Nat) : Nat → Nat → Int64 := fun s' i => if s' = s then 0 else E s' i
theorem row_I {c : Nat} (hU : ShI U c) {s o n : Nat} (ho : o ≤ 3) (hn : n ≤ 160) : ShI (rowU U s o n) c := by
  intro s' hs'
  have := hU s' hs'
  unfold rowU
  simp only [up_at]
  by_cases e : s' = s
  · subst e
    simp
    omega
  · simp [e]
    exact this
theorem pJ_1 (σ : nm_St) (a b : Nat) (x : Int64) : (nm_pJ σ a b x).1 = σ.1 := rfl
theorem pI_2 (σ : nm_St) (a b : Nat) (x : Int32) : (nm_pI σ a b x).2 = σ.2 := rfl
theorem pJ_ne (σ : nm_St) {a b c d : Nat} (x : Int64) (h : ¬ (c = a ∧ d = b)) : (nm_pJ σ a b x).2 c d = σ.2 c d := if_neg h
theorem pJ_eq (σ : nm_St) (a b : Nat) (x : Int64) : (nm_pJ σ a b x).2 a b = x := if_pos ⟨rfl, rfl⟩
theorem sh_holdRow {s : Nat} (hs : s < 8) {o n : Nat} (hn : n ≤ 160) : ∃ τ, Sh_holdRow (54 + 2 * s) (nI o) (nI n) σ = some ((), τ) ∧ τ.1 = (nm_pI (nm_pI (nm_pI (nm_pI σ (54 + 2 * s) 1 (nI 1)) (54 + 2 * s) 2 (nI o)) (54 + 2 * s) 3 (nI n)) (54 + 2 * s) 4 (-nI 1)).1 ∧ (∀ i, i < n → τ.2 (54 + 2 * s + 1) i = 0) ∧ (∀ k i, k ≠ 54 + 2 * s + 1 → τ.2 k i = σ.2 k i) ∧ Fr [6] σ τ := by
  unfold Sh_holdRow
  simp (disch := omega) only [pl_0, pl_1, pl_2, pl_3, pl_4, pl_5, pl_6, pl_7, pl_8, pl_9, pl_10, pl_11, pl_12, pl_13, pl_14, pl_15, pl_16, pl_17, pl_18, pl_19, pl_20, pl_21, pl_30, pl_40, pl_50, pl_51, pl_60, pl_70, pl_71, pl_99, pl_100, pl_160, pl_240, pl_256, pl_300, pl_999, pl_1000, pl_1280, pl_9999, pl_10000, pu_neg, pu_nn, pu_le, pu_lt, pu_eq, pu_cl, pu_in, pu_g, pu_let, pu_bind, pu_m1, pu_add, pu_mul, Nat.not_lt_zero, if_false, if_true, Nat.zero_le, pu_d2, pu_d100, pu_em1, reduceIte, Nat.reduceEqDiff, Nat.reduceLT, Nat.reduceLeDiff, Nat.reduceAdd, Nat.reduceMul, Nat.reduceSub, not_true_eq_false, not_false_eq_true, and_true, true_and, and_false, false_and, or_true, true_or, or_false, false_or, Nat.lt_irrefl, Nat.le_refl, Nat.add_zero, Bool.false_eq_true, if_pos, if_neg]
  have hx : (if 0 < n then nI n else nI 0) = nI n := by
    by_cases z : 0 < n
    · rw [if_pos z]
    · rw [if_neg z, show n = 0 by omega]
  rw [hx]
  generalize hσ : nm_pI (nm_pI (nm_pI (nm_pI σ (54 + 2 * s) 1 (nI 1)) (54 + 2 * s) 2 (nI o)) (54 + 2 * s) 3 (nI n)) (54 + 2 * s) 4 (-nI 1) = ρ
  have hf : Fr [6] σ ρ := by
    rw [← hσ]
    exact ((((Fr.rf _ _).pI _ (by rw [(rg_sh hs _).1]; rfl)).pI _ (by rw [(rg_sh hs _).1]; rfl)).pI _ (by rw [(rg_sh hs _).1]; rfl)).pI _ (by rw [(rg_sh hs _).1]; rfl)
  have h3 : ρ.1 (54 + 2 * s) 3 = nI n := by
    rw [← hσ]
    simp (disch := omega) only [pI_ne, pI_eq]
  have h2 : ρ.2 = σ.2 := by rw [← hσ]; rfl
  refine lp_Q (fun n' i (a : nm_St) => Sh_holdRow_l32 (54 + 2 * s) _ n' (nI i) a) n (fun i a => a.1 = ρ.1 ∧ (∀ j, j < i → a.2 (54 + 2 * s + 1) j = 0) ∧ (∀ k j, k ≠ 54 + 2 * s + 1 → a.2 k j = σ.2 k j) ∧ Fr [6] σ a) (fun r => ∃ τ, r = some ((), τ) ∧ τ.1 = ρ.1 ∧ (∀ i, i < n → τ.2 (54 + 2 * s + 1) i = 0) ∧ (∀ k i, k ≠ 54 + 2 * s + 1 → τ.2 k i = σ.2 k i) ∧ Fr [6] σ τ) ?_ ?_ 400 0 ρ (by omega) ⟨rfl, fun j hj => by omega, fun k j _ => by rw [h2], hf⟩ (by omega)
  · intro n' i a hi hp ih
    have hs2 := ih (nm_pJ a (54 + 2 * s + 1) i 0) ⟨hp.1, fun j hj => by
      by_cases e : j = i
      · rw [e, pJ_eq]
      · rw [pJ_ne _ _ (by omega)]; exact hp.2.1 j (by omega), fun k j hk => by
      rw [pJ_ne _ _ (by omega)]; exact hp.2.2.1 k j hk, hp.2.2.2.pJ _ (by rw [(rg_sh hs _).2]; rfl)⟩
    have h3' : a.1 (54 + 2 * s) 3 = nI n := by rw [hp.1, h3]
    simp (disch := omega) only [Sh_holdRow_l32, pl_0, pl_1, pl_2, pl_3, pl_4, pl_5, pl_6, pl_7, pl_8, pl_9, pl_10, pl_11, pl_12, pl_13, pl_14, pl_15, pl_16, pl_17, pl_18, pl_19, pl_20, pl_21, pl_30, pl_40, pl_50, pl_51, pl_60, pl_70, pl_71, pl_99, pl_100, pl_160, pl_240, pl_256, pl_300, pl_999, pl_1000, pl_1280, pl_9999, pl_10000, pu_neg, pu_nn, pu_le, pu_lt, pu_eq, pu_cl, pu_in, pu_g, pu_let, pu_bind, pu_m1, pu_add, pu_mul, Nat.not_lt_zero, if_false, if_true, Nat.zero_le, pu_d2, pu_d100, pu_em1, reduceIte, Nat.reduceEqDiff, Nat.reduceLT, Nat.reduceLeDiff, Nat.reduceAdd, Nat.reduceMul, Nat.reduceSub, not_true_eq_false, not_false_eq_true, and_true, true_and, and_false, false_and, or_true, true_or, or_false, false_or, Nat.lt_irrefl, Nat.le_refl, Nat.add_zero, Bool.false_eq_true, if_pos, if_neg, h3']
    exact hs2
  · intro n' a hp
    have h3' : a.1 (54 + 2 * s) 3 = nI n := by rw [hp.1, h3]
    simp (disch := omega) only [Sh_holdRow_l32, pl_0, pl_1, pl_2, pl_3, pl_4, pl_5, pl_6, pl_7, pl_8, pl_9, pl_10, pl_11, pl_12, pl_13, pl_14, pl_15, pl_16, pl_17, pl_18, pl_19, pl_20, pl_21, pl_30, pl_40, pl_50, pl_51, pl_60, pl_70, pl_71, pl_99, pl_100, pl_160, pl_240, pl_256, pl_300, pl_999, pl_1000, pl_1280, pl_9999, pl_10000, pu_neg, pu_nn, pu_le, pu_lt, pu_eq, pu_cl, pu_in, pu_g, pu_let, pu_bind, pu_m1, pu_add, pu_mul, Nat.not_lt_zero, if_false, if_true, Nat.zero_le, pu_d2, pu_d100, pu_em1, reduceIte, Nat.reduceEqDiff, Nat.reduceLT, Nat.reduceLeDiff, Nat.reduceAdd, Nat.reduceMul, Nat.reduceSub, not_true_eq_false, not_false_eq_true, and_true, true_and, and_false, false_and, or_true, true_or, or_false, false_or, Nat.lt_irrefl, Nat.le_refl, Nat.add_zero, Bool.false_eq_true, if_pos, if_neg, h3']
    exact ⟨a, rfl, hp.1, hp.2.1, hp.2.2.1, hp.2.2.2⟩
theorem md_rowL {s : Nat} (hs : s < 8) (ρ : nm_St) : ∃ τ, Md_row_l79 (fun (s17 : nm_St) => some ((1 : Int32), s17)) 400 (nI s) (nI 0) ρ = some (nI 1, τ) ∧ τ.1 = ρ.1 ∧ (∀ i, i < 160 → τ.2 82 (160 * s + i) = 0) ∧ (∀ k j, ¬ (k = 82 ∧ 160 * s ≤ j ∧ j < 160 * s + 160) → τ.2 k j = ρ.2 k j) ∧ Fr [10, 16] ρ τ := by
  refine lp_Q (fun n' i (a : nm_St) => Md_row_l79 _ n' (nI s) (nI i) a) 160 (fun i a => a.1 = ρ.1 ∧ (∀ j, j < i → a.2 82 (160 * s + j) = 0) ∧ (∀ k j, ¬ (k = 82 ∧ 160 * s ≤ j ∧ j < 160 * s + 160) → a.2 k j = ρ.2 k j) ∧ Fr [10, 16] ρ a) (fun r => ∃ τ, r = some (nI 1, τ) ∧ τ.1 = ρ.1 ∧ (∀ i, i < 160 → τ.2 82 (160 * s + i) = 0) ∧ (∀ k j, ¬ (k = 82 ∧ 160 * s ≤ j ∧ j < 160 * s + 160) → τ.2 k j = ρ.2 k j) ∧ Fr [10, 16] ρ τ) ?_ ?_ 400 0 ρ (by omega) ⟨rfl, fun j hj => by omega, fun k j _ => rfl, Fr.rf _ _⟩ (by omega)
  · intro n' i a hi hp ih
    have hs2 := ih (nm_pJ a 82 (160 * s + i) 0) ⟨hp.1, fun j hj => by
      by_cases e : j = i
      · rw [e, pJ_eq]
      · rw [pJ_ne _ _ (by omega)]; exact hp.2.1 j (by omega), fun k j hk => by
      rw [pJ_ne _ _ (by omega)]; exact hp.2.2.1 k j hk, hp.2.2.2.pJ _ rfl⟩
    simp (disch := omega) only [Md_row_l79, pl_0, pl_1, pl_2, pl_3, pl_4, pl_5, pl_6, pl_7, pl_8, pl_9, pl_10, pl_11, pl_12, pl_13, pl_14, pl_15, pl_16, pl_17, pl_18, pl_19, pl_20, pl_21, pl_30, pl_40, pl_50, pl_51, pl_60, pl_70, pl_71, pl_99, pl_100, pl_160, pl_240, pl_256, pl_300, pl_999, pl_1000, pl_1280, pl_9999, pl_10000, pu_neg, pu_nn, pu_le, pu_lt, pu_eq, pu_cl, pu_in, pu_g, pu_let, pu_bind, pu_m1, pu_add, pu_mul, Nat.not_lt_zero, if_false, if_true, Nat.zero_le, pu_d2, pu_d100, pu_em1, reduceIte, Nat.reduceEqDiff, Nat.reduceLT, Nat.reduceLeDiff, Nat.reduceAdd, Nat.reduceMul, Nat.reduceSub, not_true_eq_false, not_false_eq_true, and_true, true_and, and_false, false_and, or_true, true_or, or_false, false_or, Nat.lt_irrefl, Nat.le_refl, Nat.add_zero, Bool.false_eq_true, if_pos, if_neg]
    exact hs2
  · intro n' a hp
    simp (disch := omega) only [Md_row_l79, pl_0, pl_1, pl_2, pl_3, pl_4, pl_5, pl_6, pl_7, pl_8, pl_9, pl_10, pl_11, pl_12, pl_13, pl_14, pl_15, pl_16, pl_17, pl_18, pl_19, pl_20, pl_21, pl_30, pl_40, pl_50, pl_51, pl_60, pl_70, pl_71, pl_99, pl_100, pl_160, pl_240, pl_256, pl_300, pl_999, pl_1000, pl_1280, pl_9999, pl_10000, pu_neg, pu_nn, pu_le, pu_lt, pu_eq, pu_cl, pu_in, pu_g, pu_let, pu_bind, pu_m1, pu_add, pu_mul, Nat.not_lt_zero, if_false, if_true, Nat.zero_le, pu_d2, pu_d100, pu_em1, reduceIte, Nat.reduceEqDiff, Nat.reduceLT, Nat.reduceLeDiff, Nat.reduceAdd, Nat.reduceMul, Nat.reduceSub, not_true_eq_false, not_false_eq_true, and_true, true_and, and_false, false_and, or_true, true_or, or_false, false_or, Nat.lt_irrefl, Nat.le_refl, Nat.add_zero, Bool.false_eq_true, if_pos, if_neg]
    exact ⟨a, rfl, hp.1, hp.2.1, hp.2.2.1, hp.2.2.2⟩
theorem op_row (h : RelT σ T U E) (p1 p2 p3 : Int32) : OkB σ (Nm_row p1 p2 p3) (Md_row p1 p2 p3) := by
  have hP := h.2.2.1
  rcases pu_ix p1 8 (by omega) with h1 | h1 | ⟨s, hs, rfl⟩
  · refine ok_q h ?_
    exact qno (b := -nI 1) 1 (by omega) (by omega) (fun σ h => by simp (disch := omega) only [Nm_row, Nm_isShelf, pl_0, pl_1, pl_2, pl_3, pl_4, pl_5, pl_6, pl_7, pl_8, pl_9, pl_10, pl_11, pl_12, pl_13, pl_14, pl_15, pl_16, pl_17, pl_18, pl_19, pl_20, pl_21, pl_30, pl_40, pl_50, pl_51, pl_60, pl_70, pl_71, pl_99, pl_100, pl_160, pl_240, pl_256, pl_300, pl_999, pl_1000, pl_1280, pl_9999, pl_10000, pu_neg, pu_nn, pu_le, pu_lt, pu_eq, pu_cl, pu_in, pu_g, pu_let, pu_bind, pu_m1, pu_add, pu_mul, Nat.not_lt_zero, if_false, if_true, Nat.zero_le, pu_d2, pu_d100, pu_em1, reduceIte, Nat.reduceEqDiff, Nat.reduceLT, Nat.reduceLeDiff, Nat.reduceAdd, Nat.reduceMul, Nat.reduceSub, not_true_eq_false, not_false_eq_true, and_true, true_and, and_false, false_and, or_true, true_or, or_false, false_or, Nat.lt_irrefl, Nat.le_refl, Nat.add_zero, Bool.false_eq_true, if_pos, if_neg, ngl h1, nge h1, ngle h1, nggt h1, ngne h1, nm_ref]) (fun σ h => by simp (disch := omega) only [Md_row, Md_isShelf, pl_0, pl_1, pl_2, pl_3, pl_4, pl_5, pl_6, pl_7, pl_8, pl_9, pl_10, pl_11, pl_12, pl_13, pl_14, pl_15, pl_16, pl_17, pl_18, pl_19, pl_20, pl_21, pl_30, pl_40, pl_50, pl_51, pl_60, pl_70, pl_71, pl_99, pl_100, pl_160, pl_240, pl_256, pl_300, pl_999, pl_1000, pl_1280, pl_9999, pl_10000, pu_neg, pu_nn, pu_le, pu_lt, pu_eq, pu_cl, pu_in, pu_g, pu_let, pu_bind, pu_m1, pu_add, pu_mul, Nat.not_lt_zero, if_false, if_true, Nat.zero_le, pu_d2, pu_d100, pu_em1, reduceIte, Nat.reduceEqDiff, Nat.reduceLT, Nat.reduceLeDiff, Nat.reduceAdd, Nat.reduceMul, Nat.reduceSub, not_true_eq_false, not_false_eq_true, and_true, true_and, and_false, false_and, or_true, true_or, or_false, false_or, Nat.lt_irrefl, Nat.le_refl, Nat.add_zero, Bool.false_eq_true, if_pos, if_neg, ngl h1, nge h1, ngle h1, nggt h1, ngne h1, md_no])
  · refine ok_q h ?_
    exact qno (b := -nI 1) 1 (by omega) (by omega) (fun σ h => by simp (disch := omega) only [Nm_row, Nm_isShelf, pl_0, pl_1, pl_2, pl_3, pl_4, pl_5, pl_6, pl_7, pl_8, pl_9, pl_10, pl_11, pl_12, pl_13, pl_14, pl_15, pl_16, pl_17, pl_18, pl_19, pl_20, pl_21, pl_30, pl_40, pl_50, pl_51, pl_60, pl_70, pl_71, pl_99, pl_100, pl_160, pl_240, pl_256, pl_300, pl_999, pl_1000, pl_1280, pl_9999, pl_10000, pu_neg, pu_nn, pu_le, pu_lt, pu_eq, pu_cl, pu_in, pu_g, pu_let, pu_bind, pu_m1, pu_add, pu_mul, Nat.not_lt_zero, if_false, if_true, Nat.zero_le, pu_d2, pu_d100, pu_em1, reduceIte, Nat.reduceEqDiff, Nat.reduceLT, Nat.reduceLeDiff, Nat.reduceAdd, Nat.reduceMul, Nat.reduceSub, not_true_eq_false, not_false_eq_true, and_true, true_and, and_false, false_and, or_true, true_or, or_false, false_or, Nat.lt_irrefl, Nat.le_refl, Nat.add_zero, Bool.false_eq_true, if_pos, if_neg, bgl h1, bge h1, bgle h1, bggt h1, bgne h1, bgm1 h1, nm_ref]) (fun σ h => by simp (disch := omega) only [Md_row, Md_isShelf, pl_0, pl_1, pl_2, pl_3, pl_4, pl_5, pl_6, pl_7, pl_8, pl_9, pl_10, pl_11, pl_12, pl_13, pl_14, pl_15, pl_16, pl_17, pl_18, pl_19, pl_20, pl_21, pl_30, pl_40, pl_50, pl_51, pl_60, pl_70, pl_71, pl_99, pl_100, pl_160, pl_240, pl_256, pl_300, pl_999, pl_1000, pl_1280, pl_9999, pl_10000, pu_neg, pu_nn, pu_le, pu_lt, pu_eq, pu_cl, pu_in, pu_g, pu_let, pu_bind, pu_m1, pu_add, pu_mul, Nat.not_lt_zero, if_false, if_true, Nat.zero_le, pu_d2, pu_d100, pu_em1, reduceIte, Nat.reduceEqDiff, Nat.reduceLT, Nat.reduceLeDiff, Nat.reduceAdd, Nat.reduceMul, Nat.reduceSub, not_true_eq_false, not_false_eq_true, and_true, true_and, and_false, false_and, or_true, true_or, or_false, false_or, Nat.lt_irrefl, Nat.le_refl, Nat.add_zero, Bool.false_eq_true, if_pos, if_neg, bgl h1, bge h1, bgle h1, bggt h1, bgne h1, bgm1 h1, md_no])
  by_cases h3n : p3 < 0
  · refine ok_q h ?_
    exact qno (b := -nI 4) 4 (by omega) (by omega) (fun σ h => by simp (disch := omega) only [Nm_row, Nm_isShelf, pl_0, pl_1, pl_2, pl_3, pl_4, pl_5, pl_6, pl_7, pl_8, pl_9, pl_10, pl_11, pl_12, pl_13, pl_14, pl_15, pl_16, pl_17, pl_18, pl_19, pl_20, pl_21, pl_30, pl_40, pl_50, pl_51, pl_60, pl_70, pl_71, pl_99, pl_100, pl_160, pl_240, pl_256, pl_300, pl_999, pl_1000, pl_1280, pl_9999, pl_10000, pu_neg, pu_nn, pu_le, pu_lt, pu_eq, pu_cl, pu_in, pu_g, pu_let, pu_bind, pu_m1, pu_add, pu_mul, Nat.not_lt_zero, if_false, if_true, Nat.zero_le, pu_d2, pu_d100, pu_em1, reduceIte, Nat.reduceEqDiff, Nat.reduceLT, Nat.reduceLeDiff, Nat.reduceAdd, Nat.reduceMul, Nat.reduceSub, not_true_eq_false, not_false_eq_true, and_true, true_and, and_false, false_and, or_true, true_or, or_false, false_or, Nat.lt_irrefl, Nat.le_refl, Nat.add_zero, Bool.false_eq_true, if_pos, if_neg, ngl h3n, nge h3n, ngle h3n, nggt h3n, ngne h3n, nm_ref]) (fun σ h => by simp (disch := omega) only [Md_row, Md_isShelf, pl_0, pl_1, pl_2, pl_3, pl_4, pl_5, pl_6, pl_7, pl_8, pl_9, pl_10, pl_11, pl_12, pl_13, pl_14, pl_15, pl_16, pl_17, pl_18, pl_19, pl_20, pl_21, pl_30, pl_40, pl_50, pl_51, pl_60, pl_70, pl_71, pl_99, pl_100, pl_160, pl_240, pl_256, pl_300, pl_999, pl_1000, pl_1280, pl_9999, pl_10000, pu_neg, pu_nn, pu_le, pu_lt, pu_eq, pu_cl, pu_in, pu_g, pu_let, pu_bind, pu_m1, pu_add, pu_mul, Nat.not_lt_zero, if_false, if_true, Nat.zero_le, pu_d2, pu_d100, pu_em1, reduceIte, Nat.reduceEqDiff, Nat.reduceLT, Nat.reduceLeDiff, Nat.reduceAdd, Nat.reduceMul, Nat.reduceSub, not_true_eq_false, not_false_eq_true, and_true, true_and, and_false, false_and, or_true, true_or, or_false, false_or, Nat.lt_irrefl, Nat.le_refl, Nat.add_zero, Bool.false_eq_true, if_pos, if_neg, ngl h3n, nge h3n, ngle h3n, nggt h3n, ngne h3n, md_no])
  obtain ⟨n, hn, rfl⟩ := nI_of h3n
  clear h3n
  rcases pu_ix p2 4 (by omega) with h2 | h2 | ⟨o, ho, rfl⟩
  · refine ok_q h ?_
    exact qno (b := -nI 6) 6 (by omega) (by omega) (fun σ h => by simp (disch := omega) only [Nm_row, Nm_isShelf, pl_0, pl_1, pl_2, pl_3, pl_4, pl_5, pl_6, pl_7, pl_8, pl_9, pl_10, pl_11, pl_12, pl_13, pl_14, pl_15, pl_16, pl_17, pl_18, pl_19, pl_20, pl_21, pl_30, pl_40, pl_50, pl_51, pl_60, pl_70, pl_71, pl_99, pl_100, pl_160, pl_240, pl_256, pl_300, pl_999, pl_1000, pl_1280, pl_9999, pl_10000, pu_neg, pu_nn, pu_le, pu_lt, pu_eq, pu_cl, pu_in, pu_g, pu_let, pu_bind, pu_m1, pu_add, pu_mul, Nat.not_lt_zero, if_false, if_true, Nat.zero_le, pu_d2, pu_d100, pu_em1, reduceIte, Nat.reduceEqDiff, Nat.reduceLT, Nat.reduceLeDiff, Nat.reduceAdd, Nat.reduceMul, Nat.reduceSub, not_true_eq_false, not_false_eq_true, and_true, true_and, and_false, false_and, or_true, true_or, or_false, false_or, Nat.lt_irrefl, Nat.le_refl, Nat.add_zero, Bool.false_eq_true, if_pos, if_neg, ngl h2, nge h2, ngle h2, nggt h2, ngne h2, nm_ref]) (fun σ h => by simp (disch := omega) only [Md_row, Md_isShelf, pl_0, pl_1, pl_2, pl_3, pl_4, pl_5, pl_6, pl_7, pl_8, pl_9, pl_10, pl_11, pl_12, pl_13, pl_14, pl_15, pl_16, pl_17, pl_18, pl_19, pl_20, pl_21, pl_30, pl_40, pl_50, pl_51, pl_60, pl_70, pl_71, pl_99, pl_100, pl_160, pl_240, pl_256, pl_300, pl_999, pl_1000, pl_1280, pl_9999, pl_10000, pu_neg, pu_nn, pu_le, pu_lt, pu_eq, pu_cl, pu_in, pu_g, pu_let, pu_bind, pu_m1, pu_add, pu_mul, Nat.not_lt_zero, if_false, if_true, Nat.zero_le, pu_d2, pu_d100, pu_em1, reduceIte, Nat.reduceEqDiff, Nat.reduceLT, Nat.reduceLeDiff, Nat.reduceAdd, Nat.reduceMul, Nat.reduceSub, not_true_eq_false, not_false_eq_true, and_true, true_and, and_false, false_and, or_true, true_or, or_false, false_or, Nat.lt_irrefl, Nat.le_refl, Nat.add_zero, Bool.false_eq_true, if_pos, if_neg, ngl h2, nge h2, ngle h2, nggt h2, ngne h2, md_no])
  · refine ok_q h ?_
    exact qno (b := -nI 6) 6 (by omega) (by omega) (fun σ h => by simp (disch := omega) only [Nm_row, Nm_isShelf, pl_0, pl_1, pl_2, pl_3, pl_4, pl_5, pl_6, pl_7, pl_8, pl_9, pl_10, pl_11, pl_12, pl_13, pl_14, pl_15, pl_16, pl_17, pl_18, pl_19, pl_20, pl_21, pl_30, pl_40, pl_50, pl_51, pl_60, pl_70, pl_71, pl_99, pl_100, pl_160, pl_240, pl_256, pl_300, pl_999, pl_1000, pl_1280, pl_9999, pl_10000, pu_neg, pu_nn, pu_le, pu_lt, pu_eq, pu_cl, pu_in, pu_g, pu_let, pu_bind, pu_m1, pu_add, pu_mul, Nat.not_lt_zero, if_false, if_true, Nat.zero_le, pu_d2, pu_d100, pu_em1, reduceIte, Nat.reduceEqDiff, Nat.reduceLT, Nat.reduceLeDiff, Nat.reduceAdd, Nat.reduceMul, Nat.reduceSub, not_true_eq_false, not_false_eq_true, and_true, true_and, and_false, false_and, or_true, true_or, or_false, false_or, Nat.lt_irrefl, Nat.le_refl, Nat.add_zero, Bool.false_eq_true, if_pos, if_neg, bgl h2, bge h2, bgle h2, bggt h2, bgne h2, bgm1 h2, nm_ref]) (fun σ h => by simp (disch := omega) only [Md_row, Md_isShelf, pl_0, pl_1, pl_2, pl_3, pl_4, pl_5, pl_6, pl_7, pl_8, pl_9, pl_10, pl_11, pl_12, pl_13, pl_14, pl_15, pl_16, pl_17, pl_18, pl_19, pl_20, pl_21, pl_30, pl_40, pl_50, pl_51, pl_60, pl_70, pl_71, pl_99, pl_100, pl_160, pl_240, pl_256, pl_300, pl_999, pl_1000, pl_1280, pl_9999, pl_10000, pu_neg, pu_nn, pu_le, pu_lt, pu_eq, pu_cl, pu_in, pu_g, pu_let, pu_bind, pu_m1, pu_add, pu_mul, Nat.not_lt_zero, if_false, if_true, Nat.zero_le, pu_d2, pu_d100, pu_em1, reduceIte, Nat.reduceEqDiff, Nat.reduceLT, Nat.reduceLeDiff, Nat.reduceAdd, Nat.reduceMul, Nat.reduceSub, not_true_eq_false, not_false_eq_true, and_true, true_and, and_false, false_and, or_true, true_or, or_false, false_or, Nat.lt_irrefl, Nat.le_refl, Nat.add_zero, Bool.false_eq_true, if_pos, if_neg, bgl h2, bge h2, bgle h2, bggt h2, bgne h2, bgm1 h2, md_no])
  by_cases h160 : 160 < n
  · refine ok_q h ?_
    exact qno (b := -nI 7) 7 (by omega) (by omega) (fun σ h => by simp (disch := omega) only [Nm_row, Nm_isShelf, pl_0, pl_1, pl_2, pl_3, pl_4, pl_5, pl_6, pl_7, pl_8, pl_9, pl_10, pl_11, pl_12, pl_13, pl_14, pl_15, pl_16, pl_17, pl_18, pl_19, pl_20, pl_21, pl_30, pl_40, pl_50, pl_51, pl_60, pl_70, pl_71, pl_99, pl_100, pl_160, pl_240, pl_256, pl_300, pl_999, pl_1000, pl_1280, pl_9999, pl_10000, pu_neg, pu_nn, pu_le, pu_lt, pu_eq, pu_cl, pu_in, pu_g, pu_let, pu_bind, pu_m1, pu_add, pu_mul, Nat.not_lt_zero, if_false, if_true, Nat.zero_le, pu_d2, pu_d100, pu_em1, reduceIte, Nat.reduceEqDiff, Nat.reduceLT, Nat.reduceLeDiff, Nat.reduceAdd, Nat.reduceMul, Nat.reduceSub, not_true_eq_false, not_false_eq_true, and_true, true_and, and_false, false_and, or_true, true_or, or_false, false_or, Nat.lt_irrefl, Nat.le_refl, Nat.add_zero, Bool.false_eq_true, if_pos, if_neg, nm_ref]) (fun σ h => by simp (disch := omega) only [Md_row, Md_isShelf, pl_0, pl_1, pl_2, pl_3, pl_4, pl_5, pl_6, pl_7, pl_8, pl_9, pl_10, pl_11, pl_12, pl_13, pl_14, pl_15, pl_16, pl_17, pl_18, pl_19, pl_20, pl_21, pl_30, pl_40, pl_50, pl_51, pl_60, pl_70, pl_71, pl_99, pl_100, pl_160, pl_240, pl_256, pl_300, pl_999, pl_1000, pl_1280, pl_9999, pl_10000, pu_neg, pu_nn, pu_le, pu_lt, pu_eq, pu_cl, pu_in, pu_g, pu_let, pu_bind, pu_m1, pu_add, pu_mul, Nat.not_lt_zero, if_false, if_true, Nat.zero_le, pu_d2, pu_d100, pu_em1, reduceIte, Nat.reduceEqDiff, Nat.reduceLT, Nat.reduceLeDiff, Nat.reduceAdd, Nat.reduceMul, Nat.reduceSub, not_true_eq_false, not_false_eq_true, and_true, true_and, and_false, false_and, or_true, true_or, or_false, false_or, Nat.lt_irrefl, Nat.le_refl, Nat.add_zero, Bool.false_eq_true, if_pos, if_neg, md_no])
  refine ok_s h (nI 1) (rowU U s o n) (rowE E s) (row_I hP.2 (by omega) (by omega)) ?_ (fun τ hτ => ?_)
  · obtain ⟨τ, e, t1, t2, t3, t4⟩ := sh_holdRow (σ := σ) hs (o := o) (n := n) (by omega)
    refine ⟨τ, ?_, t4, fun s' hs' => ?_, fun s' i hs' hi => ?_⟩
    · simp (disch := omega) only [Nm_row, Nm_isShelf, pl_0, pl_1, pl_2, pl_3, pl_4, pl_5, pl_6, pl_7, pl_8, pl_9, pl_10, pl_11, pl_12, pl_13, pl_14, pl_15, pl_16, pl_17, pl_18, pl_19, pl_20, pl_21, pl_30, pl_40, pl_50, pl_51, pl_60, pl_70, pl_71, pl_99, pl_100, pl_160, pl_240, pl_256, pl_300, pl_999, pl_1000, pl_1280, pl_9999, pl_10000, pu_neg, pu_nn, pu_le, pu_lt, pu_eq, pu_cl, pu_in, pu_g, pu_let, pu_bind, pu_m1, pu_add, pu_mul, Nat.not_lt_zero, if_false, if_true, Nat.zero_le, pu_d2, pu_d100, pu_em1, reduceIte, Nat.reduceEqDiff, Nat.reduceLT, Nat.reduceLeDiff, Nat.reduceAdd, Nat.reduceMul, Nat.reduceSub, not_true_eq_false, not_false_eq_true, and_true, true_and, and_false, false_and, or_true, true_or, or_false, false_or, Nat.lt_irrefl, Nat.le_refl, Nat.add_zero, Bool.false_eq_true, if_pos, if_neg, sf_n, e]
    · rw [t1]
      unfold rowU
      simp only [up_at]
      by_cases z : s' = s
      · subst z
        simp (disch := omega) only [pI_ne, pI_eq]
        simp
      · have := h.1.2.1 s' hs'
        simp (disch := omega) only [pI_ne]
        simpa [z] using this
    · unfold rowU at hi
      simp only [up_at] at hi
      unfold rowE
      by_cases z : s' = s
      · subst z
        rw [if_pos rfl]
        exact t2 i (by simpa using hi)
      · rw [if_neg z, t3 _ _ (by omega)]
        exact h.1.el hs' (by simpa [z] using hi)
  · obtain ⟨ρ, e, t1, t2, t3, t4⟩ := md_rowL hs (nm_pI (nm_pI (nm_pI τ 78 s (nI 1)) 79 s (nI o)) 80 s (nI n))
    refine ⟨ρ, ?_, (((((Fr.rf [10, 16] τ).pI (a := 78) (b := s) (nI 1) rfl).pI (a := 79) (b := s) (nI o) rfl).pI (a := 80) (b := s) (nI n) rfl)).tr t4, fun s' hs' => ?_, fun s' i hs' hi => ?_⟩
    · simp (disch := omega) only [Md_row, Md_isShelf, pl_0, pl_1, pl_2, pl_3, pl_4, pl_5, pl_6, pl_7, pl_8, pl_9, pl_10, pl_11, pl_12, pl_13, pl_14, pl_15, pl_16, pl_17, pl_18, pl_19, pl_20, pl_21, pl_30, pl_40, pl_50, pl_51, pl_60, pl_70, pl_71, pl_99, pl_100, pl_160, pl_240, pl_256, pl_300, pl_999, pl_1000, pl_1280, pl_9999, pl_10000, pu_neg, pu_nn, pu_le, pu_lt, pu_eq, pu_cl, pu_in, pu_g, pu_let, pu_bind, pu_m1, pu_add, pu_mul, Nat.not_lt_zero, if_false, if_true, Nat.zero_le, pu_d2, pu_d100, pu_em1, reduceIte, Nat.reduceEqDiff, Nat.reduceLT, Nat.reduceLeDiff, Nat.reduceAdd, Nat.reduceMul, Nat.reduceSub, not_true_eq_false, not_false_eq_true, and_true, true_and, and_false, false_and, or_true, true_or, or_false, false_or, Nat.lt_irrefl, Nat.le_refl, Nat.add_zero, Bool.false_eq_true, if_pos, if_neg, pl_0] at e ⊢
      exact e
    · rw [t1]
      unfold rowU
      simp only [up_at]
      by_cases z : s' = s
      · subst z
        simp (disch := omega) only [pI_ne, pI_eq]
        simp
      · have := hτ.2.1 s' hs'
        simp (disch := omega) only [pI_ne]
        simpa [z] using this
    · unfold rowU at hi
      simp only [up_at] at hi
      unfold rowE
      by_cases z : s' = s
      · subst z
        rw [if_pos rfl]
        have : i < n := by simpa using hi
        exact t2 i (by omega)
      · have hsz := (hP.2 s' hs').1.2.2
        have hi2 : i < U 2 s' := by simpa [z] using hi
        rw [if_neg z, t3 _ _ (by omega)]
        exact hτ.el hs' hi2
end OKS
