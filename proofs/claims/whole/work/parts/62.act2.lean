/-! moves, the model's side; the call -/
section ACM
variable {σ a : nm_St} {T : is_T} {k m : Nat} {l : List Nat}
theorem md_body (h : TM σ T l a) (hl : l.length < 20) (b : Nat) : Md_body (nI b) a = some ((), nm_pI (nm_pI a 92 l.length (nI b)) 70 35 (nI (l.length + 1))) := by
  unfold Md_body Md_body_j19
  simp (disch := omega) only [pl_0, pl_1, pl_2, pl_3, pl_4, pl_5, pl_6, pl_7, pl_8, pl_9, pl_10, pl_11, pl_12, pl_13, pl_14, pl_15, pl_16, pl_17, pl_18, pl_19, pl_20, pl_21, pl_30, pl_40, pl_50, pl_51, pl_60, pl_70, pl_71, pl_99, pl_100, pl_160, pl_240, pl_256, pl_300, pl_999, pl_1000, pl_1280, pl_9999, pl_10000, pu_neg, pu_nn, pu_le, pu_lt, pu_eq, pu_cl, pu_in, pu_g, ↓pu_let, ↓pu_bind, pu_m1, pu_add, pu_mul, Nat.not_lt_zero, if_false, if_true, Nat.zero_le, pu_d2, pu_d100, pu_em1, ↓reduceIte, Nat.reduceEqDiff, Nat.reduceLT, Nat.reduceLeDiff, Nat.reduceAdd, Nat.reduceMul, Nat.reduceSub, not_true_eq_false, not_false_eq_true, and_true, true_and, and_false, false_and, or_true, true_or, or_false, false_or, Nat.lt_irrefl, Nat.le_refl, Nat.add_zero, Bool.false_eq_true, ↓pu_gI, nd_le, nd_leT, nd_lt, nd_ltT, nd_eq, nd_eqT, h.1, pI_ne]
theorem md_blow (hI : IslI T) (hm : m < 8) (hk : T 1 m = k) (h : TM σ T l a) (hl : l.length + 3 ≤ 20) (x : Int32) : ∃ a', Md_blowing (nI m) x a = some (blV k m (T 2 m) x, a') ∧ TM σ T (l ++ blB k) a' := by
  have h1 := (hI.2.2.2.2 m hm).1
  have hk7 : k = 0 ∨ k = 1 ∨ k = 2 ∨ k = 3 ∨ k = 4 ∨ k = 5 ∨ k = 6 := by omega
  have k1 : ∀ {l a}, TM σ T l a → a.1 72 m = nI k := fun h => by rw [h.2.2.1.a1 hm, hk]
  have k2 : ∀ {l a}, TM σ T l a → a.1 73 m = nI (T 2 m) := fun h => h.2.2.1.a2 hm
  have e0 := k1 h
  rcases hk7 with rfl | rfl | rfl | rfl | rfl | rfl | rfl
  · refine ⟨_, ?_, h.push 10⟩
    simp (disch := omega) only [Md_blowing, Md_blowing_j19, Md_blowing_j36, Md_blowing_j52, Md_blowing_j84, Md_blowing_j101, pl_0, pl_1, pl_2, pl_3, pl_4, pl_5, pl_6, pl_7, pl_8, pl_9, pl_10, pl_11, pl_12, pl_13, pl_14, pl_15, pl_16, pl_17, pl_18, pl_19, pl_20, pl_21, pl_30, pl_40, pl_50, pl_51, pl_60, pl_70, pl_71, pl_99, pl_100, pl_160, pl_240, pl_256, pl_300, pl_999, pl_1000, pl_1280, pl_9999, pl_10000, pu_neg, pu_nn, pu_le, pu_lt, pu_eq, pu_cl, pu_in, pu_g, ↓pu_let, ↓pu_bind, pu_m1, pu_add, pu_mul, Nat.not_lt_zero, if_false, if_true, Nat.zero_le, pu_d2, pu_d100, pu_em1, ↓reduceIte, Nat.reduceEqDiff, Nat.reduceLT, Nat.reduceLeDiff, Nat.reduceAdd, Nat.reduceMul, Nat.reduceSub, not_true_eq_false, not_false_eq_true, and_true, true_and, and_false, false_and, or_true, true_or, or_false, false_or, Nat.lt_irrefl, Nat.le_refl, Nat.add_zero, Bool.false_eq_true, ↓pu_gI, nd_le, nd_leT, nd_lt, nd_ltT, nd_eq, nd_eqT, e0, md_body h (by omega), blV]
  · have t1 := h.push 20
    have t2 := t1.push 10
    have b2 := md_body t1 (by rw [len1]; omega) 10
    rw [List.append_assoc] at t2
    refine ⟨_, ?_, t2⟩
    simp (disch := omega) only [Md_blowing, Md_blowing_j19, Md_blowing_j36, Md_blowing_j46, Md_blowing_j52, Md_blowing_j73, Md_blowing_j84, Md_blowing_j101, pl_0, pl_1, pl_2, pl_3, pl_4, pl_5, pl_6, pl_7, pl_8, pl_9, pl_10, pl_11, pl_12, pl_13, pl_14, pl_15, pl_16, pl_17, pl_18, pl_19, pl_20, pl_21, pl_30, pl_40, pl_50, pl_51, pl_60, pl_70, pl_71, pl_99, pl_100, pl_160, pl_240, pl_256, pl_300, pl_999, pl_1000, pl_1280, pl_9999, pl_10000, pu_neg, pu_nn, pu_le, pu_lt, pu_eq, pu_cl, pu_in, pu_g, ↓pu_let, ↓pu_bind, pu_m1, pu_add, pu_mul, Nat.not_lt_zero, if_false, if_true, Nat.zero_le, pu_d2, pu_d100, pu_em1, ↓reduceIte, Nat.reduceEqDiff, Nat.reduceLT, Nat.reduceLeDiff, Nat.reduceAdd, Nat.reduceMul, Nat.reduceSub, not_true_eq_false, not_false_eq_true, and_true, true_and, and_false, false_and, or_true, true_or, or_false, false_or, Nat.lt_irrefl, Nat.le_refl, Nat.add_zero, Bool.false_eq_true, ↓pu_gI, nd_le, nd_leT, nd_lt, nd_ltT, nd_eq, nd_eqT, e0, md_body h (by omega), b2, k2 t2, blV]
  · refine ⟨_, ?_, h.push 10⟩
    simp (disch := omega) only [Md_blowing, Md_blowing_j19, Md_blowing_j36, Md_blowing_j52, Md_blowing_j84, Md_blowing_j101, pl_0, pl_1, pl_2, pl_3, pl_4, pl_5, pl_6, pl_7, pl_8, pl_9, pl_10, pl_11, pl_12, pl_13, pl_14, pl_15, pl_16, pl_17, pl_18, pl_19, pl_20, pl_21, pl_30, pl_40, pl_50, pl_51, pl_60, pl_70, pl_71, pl_99, pl_100, pl_160, pl_240, pl_256, pl_300, pl_999, pl_1000, pl_1280, pl_9999, pl_10000, pu_neg, pu_nn, pu_le, pu_lt, pu_eq, pu_cl, pu_in, pu_g, ↓pu_let, ↓pu_bind, pu_m1, pu_add, pu_mul, Nat.not_lt_zero, if_false, if_true, Nat.zero_le, pu_d2, pu_d100, pu_em1, ↓reduceIte, Nat.reduceEqDiff, Nat.reduceLT, Nat.reduceLeDiff, Nat.reduceAdd, Nat.reduceMul, Nat.reduceSub, not_true_eq_false, not_false_eq_true, and_true, true_and, and_false, false_and, or_true, true_or, or_false, false_or, Nat.lt_irrefl, Nat.le_refl, Nat.add_zero, Bool.false_eq_true, ↓pu_gI, nd_le, nd_leT, nd_lt, nd_ltT, nd_eq, nd_eqT, e0, md_body h (by omega), blV]
  · have t1 := h.push 20
    have t2 := t1.push 10
    have b2 := md_body t1 (by rw [len1]; omega) 10
    rw [List.append_assoc] at t2
    refine ⟨_, ?_, t2⟩
    simp (disch := omega) only [Md_blowing, Md_blowing_j19, Md_blowing_j36, Md_blowing_j46, Md_blowing_j52, Md_blowing_j73, Md_blowing_j84, Md_blowing_j101, pl_0, pl_1, pl_2, pl_3, pl_4, pl_5, pl_6, pl_7, pl_8, pl_9, pl_10, pl_11, pl_12, pl_13, pl_14, pl_15, pl_16, pl_17, pl_18, pl_19, pl_20, pl_21, pl_30, pl_40, pl_50, pl_51, pl_60, pl_70, pl_71, pl_99, pl_100, pl_160, pl_240, pl_256, pl_300, pl_999, pl_1000, pl_1280, pl_9999, pl_10000, pu_neg, pu_nn, pu_le, pu_lt, pu_eq, pu_cl, pu_in, pu_g, ↓pu_let, ↓pu_bind, pu_m1, pu_add, pu_mul, Nat.not_lt_zero, if_false, if_true, Nat.zero_le, pu_d2, pu_d100, pu_em1, ↓reduceIte, Nat.reduceEqDiff, Nat.reduceLT, Nat.reduceLeDiff, Nat.reduceAdd, Nat.reduceMul, Nat.reduceSub, not_true_eq_false, not_false_eq_true, and_true, true_and, and_false, false_and, or_true, true_or, or_false, false_or, Nat.lt_irrefl, Nat.le_refl, Nat.add_zero, Bool.false_eq_true, ↓pu_gI, nd_le, nd_leT, nd_lt, nd_ltT, nd_eq, nd_eqT, e0, md_body h (by omega), b2, k2 t2, blV]
  · have t1 := h.push 51
    have t2 := t1.push 10
    have b2 := md_body t1 (by rw [len1]; omega) 10
    rw [List.append_assoc] at t2
    refine ⟨_, ?_, t2⟩
    simp (disch := omega) only [Md_blowing, Md_blowing_j19, Md_blowing_j30, Md_blowing_j36, Md_blowing_j52, Md_blowing_j84, Md_blowing_j95, Md_blowing_j101, pl_0, pl_1, pl_2, pl_3, pl_4, pl_5, pl_6, pl_7, pl_8, pl_9, pl_10, pl_11, pl_12, pl_13, pl_14, pl_15, pl_16, pl_17, pl_18, pl_19, pl_20, pl_21, pl_30, pl_40, pl_50, pl_51, pl_60, pl_70, pl_71, pl_99, pl_100, pl_160, pl_240, pl_256, pl_300, pl_999, pl_1000, pl_1280, pl_9999, pl_10000, pu_neg, pu_nn, pu_le, pu_lt, pu_eq, pu_cl, pu_in, pu_g, ↓pu_let, ↓pu_bind, pu_m1, pu_add, pu_mul, Nat.not_lt_zero, if_false, if_true, Nat.zero_le, pu_d2, pu_d100, pu_em1, ↓reduceIte, Nat.reduceEqDiff, Nat.reduceLT, Nat.reduceLeDiff, Nat.reduceAdd, Nat.reduceMul, Nat.reduceSub, not_true_eq_false, not_false_eq_true, and_true, true_and, and_false, false_and, or_true, true_or, or_false, false_or, Nat.lt_irrefl, Nat.le_refl, Nat.add_zero, Bool.false_eq_true, ↓pu_gI, nd_le, nd_leT, nd_lt, nd_ltT, nd_eq, nd_eqT, e0, md_body h (by omega), b2, blV]
  · refine ⟨_, ?_, h.push 10⟩
    simp (disch := omega) only [Md_blowing, Md_blowing_j19, Md_blowing_j36, Md_blowing_j52, Md_blowing_j84, Md_blowing_j101, pl_0, pl_1, pl_2, pl_3, pl_4, pl_5, pl_6, pl_7, pl_8, pl_9, pl_10, pl_11, pl_12, pl_13, pl_14, pl_15, pl_16, pl_17, pl_18, pl_19, pl_20, pl_21, pl_30, pl_40, pl_50, pl_51, pl_60, pl_70, pl_71, pl_99, pl_100, pl_160, pl_240, pl_256, pl_300, pl_999, pl_1000, pl_1280, pl_9999, pl_10000, pu_neg, pu_nn, pu_le, pu_lt, pu_eq, pu_cl, pu_in, pu_g, ↓pu_let, ↓pu_bind, pu_m1, pu_add, pu_mul, Nat.not_lt_zero, if_false, if_true, Nat.zero_le, pu_d2, pu_d100, pu_em1, ↓reduceIte, Nat.reduceEqDiff, Nat.reduceLT, Nat.reduceLeDiff, Nat.reduceAdd, Nat.reduceMul, Nat.reduceSub, not_true_eq_false, not_false_eq_true, and_true, true_and, and_false, false_and, or_true, true_or, or_false, false_or, Nat.lt_irrefl, Nat.le_refl, Nat.add_zero, Bool.false_eq_true, ↓pu_gI, nd_le, nd_leT, nd_lt, nd_ltT, nd_eq, nd_eqT, e0, md_body h (by omega), blV]
  · have t1 := h.push 70
    have t2 := t1.push 51
    have t3 := t2.push 10
    have b2 := md_body t1 (by rw [len1]; omega) 51
    have b3 := md_body t2 (by rw [len1, len1]; omega) 10
    rw [List.append_assoc, List.append_assoc] at t3
    refine ⟨_, ?_, t3⟩
    simp (disch := omega) only [Md_blowing, Md_blowing_j19, Md_blowing_j30, Md_blowing_j36, Md_blowing_j52, Md_blowing_j84, Md_blowing_j95, Md_blowing_j101, pl_0, pl_1, pl_2, pl_3, pl_4, pl_5, pl_6, pl_7, pl_8, pl_9, pl_10, pl_11, pl_12, pl_13, pl_14, pl_15, pl_16, pl_17, pl_18, pl_19, pl_20, pl_21, pl_30, pl_40, pl_50, pl_51, pl_60, pl_70, pl_71, pl_99, pl_100, pl_160, pl_240, pl_256, pl_300, pl_999, pl_1000, pl_1280, pl_9999, pl_10000, pu_neg, pu_nn, pu_le, pu_lt, pu_eq, pu_cl, pu_in, pu_g, ↓pu_let, ↓pu_bind, pu_m1, pu_add, pu_mul, Nat.not_lt_zero, if_false, if_true, Nat.zero_le, pu_d2, pu_d100, pu_em1, ↓reduceIte, Nat.reduceEqDiff, Nat.reduceLT, Nat.reduceLeDiff, Nat.reduceAdd, Nat.reduceMul, Nat.reduceSub, not_true_eq_false, not_false_eq_true, and_true, true_and, and_false, false_and, or_true, true_or, or_false, false_or, Nat.lt_irrefl, Nat.le_refl, Nat.add_zero, Bool.false_eq_true, ↓pu_gI, nd_le, nd_leT, nd_lt, nd_ltT, nd_eq, nd_eqT, e0, md_body h (by omega), b2, b3, blV]
theorem dbl_k {m : Nat} (hk : T 1 m = k) : dblB T m = (decide (k = 2) || decide (k = 5)) := by unfold dblB; rw [hk]
theorem md_j62 (hI : IslI T) (hm : m < 8) (hk : T 1 m = k) (h : TM σ T l a) (hl : l.length + 4 ≤ 20) (y : Int32) : ∃ a', Md_selling_j62 (nI m) y a = some (if k = 2 ∨ k = 5 then blV k m (T 2 m) y * nI 2 * nI 3 else blV k m (T 2 m) y * nI 2, a') ∧ TM σ T (l ++ ([11] ++ blB k)) a' := by
  obtain ⟨a', e, t⟩ := md_blow hI hm hk (h.push 11) (by rw [len1]; omega) y
  rw [List.append_assoc] at t
  refine ⟨a', ?_, t⟩
  have kd := md_isDouble t.2.2.1 hI hm
  rw [dbl_k hk] at kd
  unfold Md_selling_j62
  by_cases z2 : k = 2
  · subst z2
    simp (disch := omega) only [pl_0, pl_1, pl_2, pl_3, pl_4, pl_5, pl_6, pl_7, pl_8, pl_9, pl_10, pl_11, pl_12, pl_13, pl_14, pl_15, pl_16, pl_17, pl_18, pl_19, pl_20, pl_21, pl_30, pl_40, pl_50, pl_51, pl_60, pl_70, pl_71, pl_99, pl_100, pl_160, pl_240, pl_256, pl_300, pl_999, pl_1000, pl_1280, pl_9999, pl_10000, pu_neg, pu_nn, pu_le, pu_lt, pu_eq, pu_cl, pu_in, pu_g, ↓pu_let, ↓pu_bind, pu_m1, pu_add, pu_mul, Nat.not_lt_zero, if_false, if_true, Nat.zero_le, pu_d2, pu_d100, pu_em1, ↓reduceIte, Nat.reduceEqDiff, Nat.reduceLT, Nat.reduceLeDiff, Nat.reduceAdd, Nat.reduceMul, Nat.reduceSub, not_true_eq_false, not_false_eq_true, and_true, true_and, and_false, false_and, or_true, true_or, or_false, false_or, Nat.lt_irrefl, Nat.le_refl, Nat.add_zero, Bool.false_eq_true, ↓pu_gI, nd_le, nd_leT, nd_lt, nd_ltT, nd_eq, nd_eqT, md_body h (by omega), e, kd, decide_true, Bool.true_or]
  · by_cases z5 : k = 5
    · subst z5
      simp (disch := omega) only [pl_0, pl_1, pl_2, pl_3, pl_4, pl_5, pl_6, pl_7, pl_8, pl_9, pl_10, pl_11, pl_12, pl_13, pl_14, pl_15, pl_16, pl_17, pl_18, pl_19, pl_20, pl_21, pl_30, pl_40, pl_50, pl_51, pl_60, pl_70, pl_71, pl_99, pl_100, pl_160, pl_240, pl_256, pl_300, pl_999, pl_1000, pl_1280, pl_9999, pl_10000, pu_neg, pu_nn, pu_le, pu_lt, pu_eq, pu_cl, pu_in, pu_g, ↓pu_let, ↓pu_bind, pu_m1, pu_add, pu_mul, Nat.not_lt_zero, if_false, if_true, Nat.zero_le, pu_d2, pu_d100, pu_em1, ↓reduceIte, Nat.reduceEqDiff, Nat.reduceLT, Nat.reduceLeDiff, Nat.reduceAdd, Nat.reduceMul, Nat.reduceSub, not_true_eq_false, not_false_eq_true, and_true, true_and, and_false, false_and, or_true, true_or, or_false, false_or, Nat.lt_irrefl, Nat.le_refl, Nat.add_zero, Bool.false_eq_true, ↓pu_gI, nd_le, nd_leT, nd_lt, nd_ltT, nd_eq, nd_eqT, md_body h (by omega), e, kd, decide_true, Bool.or_true]
    · rw [decide_eq_false z2, decide_eq_false z5] at kd
      simp (disch := omega) only [pl_0, pl_1, pl_2, pl_3, pl_4, pl_5, pl_6, pl_7, pl_8, pl_9, pl_10, pl_11, pl_12, pl_13, pl_14, pl_15, pl_16, pl_17, pl_18, pl_19, pl_20, pl_21, pl_30, pl_40, pl_50, pl_51, pl_60, pl_70, pl_71, pl_99, pl_100, pl_160, pl_240, pl_256, pl_300, pl_999, pl_1000, pl_1280, pl_9999, pl_10000, pu_neg, pu_nn, pu_le, pu_lt, pu_eq, pu_cl, pu_in, pu_g, ↓pu_let, ↓pu_bind, pu_m1, pu_add, pu_mul, Nat.not_lt_zero, if_false, if_true, Nat.zero_le, pu_d2, pu_d100, pu_em1, ↓reduceIte, Nat.reduceEqDiff, Nat.reduceLT, Nat.reduceLeDiff, Nat.reduceAdd, Nat.reduceMul, Nat.reduceSub, not_true_eq_false, not_false_eq_true, and_true, true_and, and_false, false_and, or_true, true_or, or_false, false_or, Nat.lt_irrefl, Nat.le_refl, Nat.add_zero, Bool.false_eq_true, ↓pu_gI, nd_le, nd_leT, nd_lt, nd_ltT, nd_eq, nd_eqT, md_body h (by omega), e, kd, Bool.or_self]
theorem md_sell (hI : IslI T) (hm : m < 8) (hk : T 1 m = k) (h : TM σ T l a) (hl : l.length + 5 ≤ 20) (x : Int32) : ∃ a', Md_selling (nI m) x a = some (slV k m (T 2 m) x, a') ∧ TM σ T (l ++ slB k) a' := by
  have h1 := (hI.2.2.2.2 m hm).1
  have hk7 : k = 0 ∨ k = 1 ∨ k = 2 ∨ k = 3 ∨ k = 4 ∨ k = 5 ∨ k = 6 := by omega
  have k1 : ∀ {l a}, TM σ T l a → a.1 72 m = nI k := fun h => by rw [h.2.2.1.a1 hm, hk]
  have k2 : ∀ {l a}, TM σ T l a → a.1 73 m = nI (T 2 m) := fun h => h.2.2.1.a2 hm
  have kd : ∀ {l a}, TM σ T l a → Md_isDouble (nI m) a = some (nI (if (decide (k = 2) || decide (k = 5)) = true then 1 else 0), a) := fun h => by
    rw [md_isDouble h.2.2.1 hI hm, dbl_k hk]
  have e0 := k1 h
  have d0 := kd h
  rcases hk7 with rfl | rfl | rfl | rfl | rfl | rfl | rfl
  · obtain ⟨a', e, t⟩ := md_j62 hI hm hk h (by omega) x
    refine ⟨a', ?_, t⟩
    simp (disch := omega) only [Md_selling, Md_selling_j32, Md_selling_j48, pl_0, pl_1, pl_2, pl_3, pl_4, pl_5, pl_6, pl_7, pl_8, pl_9, pl_10, pl_11, pl_12, pl_13, pl_14, pl_15, pl_16, pl_17, pl_18, pl_19, pl_20, pl_21, pl_30, pl_40, pl_50, pl_51, pl_60, pl_70, pl_71, pl_99, pl_100, pl_160, pl_240, pl_256, pl_300, pl_999, pl_1000, pl_1280, pl_9999, pl_10000, pu_neg, pu_nn, pu_le, pu_lt, pu_eq, pu_cl, pu_in, pu_g, ↓pu_let, ↓pu_bind, pu_m1, pu_add, pu_mul, Nat.not_lt_zero, if_false, if_true, Nat.zero_le, pu_d2, pu_d100, pu_em1, ↓reduceIte, Nat.reduceEqDiff, Nat.reduceLT, Nat.reduceLeDiff, Nat.reduceAdd, Nat.reduceMul, Nat.reduceSub, not_true_eq_false, not_false_eq_true, and_true, true_and, and_false, false_and, or_true, true_or, or_false, false_or, Nat.lt_irrefl, Nat.le_refl, Nat.add_zero, Bool.false_eq_true, ↓pu_gI, nd_le, nd_leT, nd_lt, nd_ltT, nd_eq, nd_eqT, e0, d0, decide_false, Bool.or_self] at e ⊢
    exact e
  · obtain ⟨a', e, t⟩ := md_j62 hI hm hk h (by omega) x
    refine ⟨a', ?_, t⟩
    simp (disch := omega) only [Md_selling, Md_selling_j32, Md_selling_j48, pl_0, pl_1, pl_2, pl_3, pl_4, pl_5, pl_6, pl_7, pl_8, pl_9, pl_10, pl_11, pl_12, pl_13, pl_14, pl_15, pl_16, pl_17, pl_18, pl_19, pl_20, pl_21, pl_30, pl_40, pl_50, pl_51, pl_60, pl_70, pl_71, pl_99, pl_100, pl_160, pl_240, pl_256, pl_300, pl_999, pl_1000, pl_1280, pl_9999, pl_10000, pu_neg, pu_nn, pu_le, pu_lt, pu_eq, pu_cl, pu_in, pu_g, ↓pu_let, ↓pu_bind, pu_m1, pu_add, pu_mul, Nat.not_lt_zero, if_false, if_true, Nat.zero_le, pu_d2, pu_d100, pu_em1, ↓reduceIte, Nat.reduceEqDiff, Nat.reduceLT, Nat.reduceLeDiff, Nat.reduceAdd, Nat.reduceMul, Nat.reduceSub, not_true_eq_false, not_false_eq_true, and_true, true_and, and_false, false_and, or_true, true_or, or_false, false_or, Nat.lt_irrefl, Nat.le_refl, Nat.add_zero, Bool.false_eq_true, ↓pu_gI, nd_le, nd_leT, nd_lt, nd_ltT, nd_eq, nd_eqT, e0, d0, decide_false, Bool.or_self] at e ⊢
    exact e
  · obtain ⟨a', e, t⟩ := md_j62 hI hm hk (h.push 30) (by rw [len1]; omega) x
    rw [List.append_assoc] at t
    refine ⟨a', ?_, t⟩
    simp (disch := omega) only [Md_selling, Md_selling_j32, Md_selling_j48, pl_0, pl_1, pl_2, pl_3, pl_4, pl_5, pl_6, pl_7, pl_8, pl_9, pl_10, pl_11, pl_12, pl_13, pl_14, pl_15, pl_16, pl_17, pl_18, pl_19, pl_20, pl_21, pl_30, pl_40, pl_50, pl_51, pl_60, pl_70, pl_71, pl_99, pl_100, pl_160, pl_240, pl_256, pl_300, pl_999, pl_1000, pl_1280, pl_9999, pl_10000, pu_neg, pu_nn, pu_le, pu_lt, pu_eq, pu_cl, pu_in, pu_g, ↓pu_let, ↓pu_bind, pu_m1, pu_add, pu_mul, Nat.not_lt_zero, if_false, if_true, Nat.zero_le, pu_d2, pu_d100, pu_em1, ↓reduceIte, Nat.reduceEqDiff, Nat.reduceLT, Nat.reduceLeDiff, Nat.reduceAdd, Nat.reduceMul, Nat.reduceSub, not_true_eq_false, not_false_eq_true, and_true, true_and, and_false, false_and, or_true, true_or, or_false, false_or, Nat.lt_irrefl, Nat.le_refl, Nat.add_zero, Bool.false_eq_true, ↓pu_gI, nd_le, nd_leT, nd_lt, nd_ltT, nd_eq, nd_eqT, e0, d0, md_body h (by omega), decide_true, Bool.true_or] at e ⊢
    exact e
  · have t1 := h.push 40
    have d1 := kd t1
    obtain ⟨a', e, t⟩ := md_j62 hI hm hk t1 (by rw [len1]; omega) (x + nI 1)
    rw [List.append_assoc] at t
    refine ⟨a', ?_, t⟩
    simp (disch := omega) only [Md_selling, Md_selling_j32, Md_selling_j48, pl_0, pl_1, pl_2, pl_3, pl_4, pl_5, pl_6, pl_7, pl_8, pl_9, pl_10, pl_11, pl_12, pl_13, pl_14, pl_15, pl_16, pl_17, pl_18, pl_19, pl_20, pl_21, pl_30, pl_40, pl_50, pl_51, pl_60, pl_70, pl_71, pl_99, pl_100, pl_160, pl_240, pl_256, pl_300, pl_999, pl_1000, pl_1280, pl_9999, pl_10000, pu_neg, pu_nn, pu_le, pu_lt, pu_eq, pu_cl, pu_in, pu_g, ↓pu_let, ↓pu_bind, pu_m1, pu_add, pu_mul, Nat.not_lt_zero, if_false, if_true, Nat.zero_le, pu_d2, pu_d100, pu_em1, ↓reduceIte, Nat.reduceEqDiff, Nat.reduceLT, Nat.reduceLeDiff, Nat.reduceAdd, Nat.reduceMul, Nat.reduceSub, not_true_eq_false, not_false_eq_true, and_true, true_and, and_false, false_and, or_true, true_or, or_false, false_or, Nat.lt_irrefl, Nat.le_refl, Nat.add_zero, Bool.false_eq_true, ↓pu_gI, nd_le, nd_leT, nd_lt, nd_ltT, nd_eq, nd_eqT, e0, d1, md_body h (by omega), decide_false, Bool.or_self] at e ⊢
    exact e
  · obtain ⟨a', e, t⟩ := md_j62 hI hm hk h (by omega) x
    refine ⟨a', ?_, t⟩
    simp (disch := omega) only [Md_selling, Md_selling_j32, Md_selling_j48, pl_0, pl_1, pl_2, pl_3, pl_4, pl_5, pl_6, pl_7, pl_8, pl_9, pl_10, pl_11, pl_12, pl_13, pl_14, pl_15, pl_16, pl_17, pl_18, pl_19, pl_20, pl_21, pl_30, pl_40, pl_50, pl_51, pl_60, pl_70, pl_71, pl_99, pl_100, pl_160, pl_240, pl_256, pl_300, pl_999, pl_1000, pl_1280, pl_9999, pl_10000, pu_neg, pu_nn, pu_le, pu_lt, pu_eq, pu_cl, pu_in, pu_g, ↓pu_let, ↓pu_bind, pu_m1, pu_add, pu_mul, Nat.not_lt_zero, if_false, if_true, Nat.zero_le, pu_d2, pu_d100, pu_em1, ↓reduceIte, Nat.reduceEqDiff, Nat.reduceLT, Nat.reduceLeDiff, Nat.reduceAdd, Nat.reduceMul, Nat.reduceSub, not_true_eq_false, not_false_eq_true, and_true, true_and, and_false, false_and, or_true, true_or, or_false, false_or, Nat.lt_irrefl, Nat.le_refl, Nat.add_zero, Bool.false_eq_true, ↓pu_gI, nd_le, nd_leT, nd_lt, nd_ltT, nd_eq, nd_eqT, e0, d0, decide_false, Bool.or_self] at e ⊢
    exact e
  · obtain ⟨a', e, t⟩ := md_j62 hI hm hk (h.push 30) (by rw [len1]; omega) x
    rw [List.append_assoc] at t
    refine ⟨a', ?_, t⟩
    simp (disch := omega) only [Md_selling, Md_selling_j32, Md_selling_j48, pl_0, pl_1, pl_2, pl_3, pl_4, pl_5, pl_6, pl_7, pl_8, pl_9, pl_10, pl_11, pl_12, pl_13, pl_14, pl_15, pl_16, pl_17, pl_18, pl_19, pl_20, pl_21, pl_30, pl_40, pl_50, pl_51, pl_60, pl_70, pl_71, pl_99, pl_100, pl_160, pl_240, pl_256, pl_300, pl_999, pl_1000, pl_1280, pl_9999, pl_10000, pu_neg, pu_nn, pu_le, pu_lt, pu_eq, pu_cl, pu_in, pu_g, ↓pu_let, ↓pu_bind, pu_m1, pu_add, pu_mul, Nat.not_lt_zero, if_false, if_true, Nat.zero_le, pu_d2, pu_d100, pu_em1, ↓reduceIte, Nat.reduceEqDiff, Nat.reduceLT, Nat.reduceLeDiff, Nat.reduceAdd, Nat.reduceMul, Nat.reduceSub, not_true_eq_false, not_false_eq_true, and_true, true_and, and_false, false_and, or_true, true_or, or_false, false_or, Nat.lt_irrefl, Nat.le_refl, Nat.add_zero, Bool.false_eq_true, ↓pu_gI, nd_le, nd_leT, nd_lt, nd_ltT, nd_eq, nd_eqT, e0, d0, md_body h (by omega), decide_true, Bool.or_true] at e ⊢
    exact e
  · have t1 := h.push 71
    have d1 := kd t1
    obtain ⟨a', e, t⟩ := md_j62 hI hm hk t1 (by rw [len1]; omega) (x - nI (T 2 m))
    rw [List.append_assoc] at t
    refine ⟨a', ?_, t⟩
    simp (disch := omega) only [Md_selling, Md_selling_j32, Md_selling_j48, pl_0, pl_1, pl_2, pl_3, pl_4, pl_5, pl_6, pl_7, pl_8, pl_9, pl_10, pl_11, pl_12, pl_13, pl_14, pl_15, pl_16, pl_17, pl_18, pl_19, pl_20, pl_21, pl_30, pl_40, pl_50, pl_51, pl_60, pl_70, pl_71, pl_99, pl_100, pl_160, pl_240, pl_256, pl_300, pl_999, pl_1000, pl_1280, pl_9999, pl_10000, pu_neg, pu_nn, pu_le, pu_lt, pu_eq, pu_cl, pu_in, pu_g, ↓pu_let, ↓pu_bind, pu_m1, pu_add, pu_mul, Nat.not_lt_zero, if_false, if_true, Nat.zero_le, pu_d2, pu_d100, pu_em1, ↓reduceIte, Nat.reduceEqDiff, Nat.reduceLT, Nat.reduceLeDiff, Nat.reduceAdd, Nat.reduceMul, Nat.reduceSub, not_true_eq_false, not_false_eq_true, and_true, true_and, and_false, false_and, or_true, true_or, or_false, false_or, Nat.lt_irrefl, Nat.le_refl, Nat.add_zero, Bool.false_eq_true, ↓pu_gI, nd_le, nd_leT, nd_lt, nd_ltT, nd_eq, nd_eqT, e0, d1, k2 t1, md_body h (by omega), decide_false, Bool.or_self] at e ⊢
    exact e
theorem md_hide (hI : IslI T) (hm : m < 8) (hk : T 1 m = k) (h : TM σ T l a) (hl : l.length + 10 ≤ 20) (x : Int32) : ∃ a', Md_hiding (nI m) x a = some (hiV k m (T 2 m) x, a') ∧ TM σ T (l ++ hiB k) a' := by
  have h1 := (hI.2.2.2.2 m hm).1
  have hk7 : k = 0 ∨ k = 1 ∨ k = 2 ∨ k = 3 ∨ k = 4 ∨ k = 5 ∨ k = 6 := by omega
  have k1 : ∀ {l a}, TM σ T l a → a.1 72 m = nI k := fun h => by rw [h.2.2.1.a1 hm, hk]
  have k2 : ∀ {l a}, TM σ T l a → a.1 73 m = nI (T 2 m) := fun h => h.2.2.1.a2 hm
  have e0 := k1 h
  have j35 : ∀ {l : List Nat} {a : nm_St}, TM σ T l a → l.length + 9 ≤ 20 → ∃ a', Md_hiding_j35 (nI m) x (nI k) a = some (hiV k m (T 2 m) x, a') ∧ TM σ T (l ++ ([12] ++ (slB k ++ blB k))) a' := fun {l a} h hl => by
    have hs := slB_len k
    obtain ⟨a1, e1, t1⟩ := md_sell hI hm hk (h.push 12) (by rw [len1]; omega) x
    obtain ⟨a2, e2, t2⟩ := md_blow hI hm hk t1 (by rw [List.length_append, len1]; omega) (x - nI (T 2 m))
    rw [List.append_assoc, List.append_assoc] at t2
    refine ⟨a2, ?_, t2⟩
    unfold Md_hiding_j35 hiV
    rcases hk7 with rfl | rfl | rfl | rfl | rfl | rfl | rfl
    all_goals simp (disch := omega) only [pl_0, pl_1, pl_2, pl_3, pl_4, pl_5, pl_6, pl_7, pl_8, pl_9, pl_10, pl_11, pl_12, pl_13, pl_14, pl_15, pl_16, pl_17, pl_18, pl_19, pl_20, pl_21, pl_30, pl_40, pl_50, pl_51, pl_60, pl_70, pl_71, pl_99, pl_100, pl_160, pl_240, pl_256, pl_300, pl_999, pl_1000, pl_1280, pl_9999, pl_10000, pu_neg, pu_nn, pu_le, pu_lt, pu_eq, pu_cl, pu_in, pu_g, ↓pu_let, ↓pu_bind, pu_m1, pu_add, pu_mul, Nat.not_lt_zero, if_false, if_true, Nat.zero_le, pu_d2, pu_d100, pu_em1, ↓reduceIte, Nat.reduceEqDiff, Nat.reduceLT, Nat.reduceLeDiff, Nat.reduceAdd, Nat.reduceMul, Nat.reduceSub, not_true_eq_false, not_false_eq_true, and_true, true_and, and_false, false_and, or_true, true_or, or_false, false_or, Nat.lt_irrefl, Nat.le_refl, Nat.add_zero, Bool.false_eq_true, ↓pu_gI, nd_le, nd_leT, nd_lt, nd_ltT, nd_eq, nd_eqT, md_body h (by omega), e1, k2 t1, e2]
  rcases hk7 with rfl | rfl | rfl | rfl | rfl | rfl | rfl
  · obtain ⟨a', e, t⟩ := j35 h (by omega)
    refine ⟨a', ?_, t⟩
    simp (disch := omega) only [Md_hiding, Md_hiding_j24, pl_0, pl_1, pl_2, pl_3, pl_4, pl_5, pl_6, pl_7, pl_8, pl_9, pl_10, pl_11, pl_12, pl_13, pl_14, pl_15, pl_16, pl_17, pl_18, pl_19, pl_20, pl_21, pl_30, pl_40, pl_50, pl_51, pl_60, pl_70, pl_71, pl_99, pl_100, pl_160, pl_240, pl_256, pl_300, pl_999, pl_1000, pl_1280, pl_9999, pl_10000, pu_neg, pu_nn, pu_le, pu_lt, pu_eq, pu_cl, pu_in, pu_g, ↓pu_let, ↓pu_bind, pu_m1, pu_add, pu_mul, Nat.not_lt_zero, if_false, if_true, Nat.zero_le, pu_d2, pu_d100, pu_em1, ↓reduceIte, Nat.reduceEqDiff, Nat.reduceLT, Nat.reduceLeDiff, Nat.reduceAdd, Nat.reduceMul, Nat.reduceSub, not_true_eq_false, not_false_eq_true, and_true, true_and, and_false, false_and, or_true, true_or, or_false, false_or, Nat.lt_irrefl, Nat.le_refl, Nat.add_zero, Bool.false_eq_true, ↓pu_gI, nd_le, nd_leT, nd_lt, nd_ltT, nd_eq, nd_eqT, e0, e]
  · obtain ⟨a', e, t⟩ := j35 h (by omega)
    refine ⟨a', ?_, t⟩
    simp (disch := omega) only [Md_hiding, Md_hiding_j24, pl_0, pl_1, pl_2, pl_3, pl_4, pl_5, pl_6, pl_7, pl_8, pl_9, pl_10, pl_11, pl_12, pl_13, pl_14, pl_15, pl_16, pl_17, pl_18, pl_19, pl_20, pl_21, pl_30, pl_40, pl_50, pl_51, pl_60, pl_70, pl_71, pl_99, pl_100, pl_160, pl_240, pl_256, pl_300, pl_999, pl_1000, pl_1280, pl_9999, pl_10000, pu_neg, pu_nn, pu_le, pu_lt, pu_eq, pu_cl, pu_in, pu_g, ↓pu_let, ↓pu_bind, pu_m1, pu_add, pu_mul, Nat.not_lt_zero, if_false, if_true, Nat.zero_le, pu_d2, pu_d100, pu_em1, ↓reduceIte, Nat.reduceEqDiff, Nat.reduceLT, Nat.reduceLeDiff, Nat.reduceAdd, Nat.reduceMul, Nat.reduceSub, not_true_eq_false, not_false_eq_true, and_true, true_and, and_false, false_and, or_true, true_or, or_false, false_or, Nat.lt_irrefl, Nat.le_refl, Nat.add_zero, Bool.false_eq_true, ↓pu_gI, nd_le, nd_leT, nd_lt, nd_ltT, nd_eq, nd_eqT, e0, e]
  · obtain ⟨a', e, t⟩ := j35 h (by omega)
    refine ⟨a', ?_, t⟩
    simp (disch := omega) only [Md_hiding, Md_hiding_j24, pl_0, pl_1, pl_2, pl_3, pl_4, pl_5, pl_6, pl_7, pl_8, pl_9, pl_10, pl_11, pl_12, pl_13, pl_14, pl_15, pl_16, pl_17, pl_18, pl_19, pl_20, pl_21, pl_30, pl_40, pl_50, pl_51, pl_60, pl_70, pl_71, pl_99, pl_100, pl_160, pl_240, pl_256, pl_300, pl_999, pl_1000, pl_1280, pl_9999, pl_10000, pu_neg, pu_nn, pu_le, pu_lt, pu_eq, pu_cl, pu_in, pu_g, ↓pu_let, ↓pu_bind, pu_m1, pu_add, pu_mul, Nat.not_lt_zero, if_false, if_true, Nat.zero_le, pu_d2, pu_d100, pu_em1, ↓reduceIte, Nat.reduceEqDiff, Nat.reduceLT, Nat.reduceLeDiff, Nat.reduceAdd, Nat.reduceMul, Nat.reduceSub, not_true_eq_false, not_false_eq_true, and_true, true_and, and_false, false_and, or_true, true_or, or_false, false_or, Nat.lt_irrefl, Nat.le_refl, Nat.add_zero, Bool.false_eq_true, ↓pu_gI, nd_le, nd_leT, nd_lt, nd_ltT, nd_eq, nd_eqT, e0, e]
  · obtain ⟨a', e, t⟩ := j35 h (by omega)
    refine ⟨a', ?_, t⟩
    simp (disch := omega) only [Md_hiding, Md_hiding_j24, pl_0, pl_1, pl_2, pl_3, pl_4, pl_5, pl_6, pl_7, pl_8, pl_9, pl_10, pl_11, pl_12, pl_13, pl_14, pl_15, pl_16, pl_17, pl_18, pl_19, pl_20, pl_21, pl_30, pl_40, pl_50, pl_51, pl_60, pl_70, pl_71, pl_99, pl_100, pl_160, pl_240, pl_256, pl_300, pl_999, pl_1000, pl_1280, pl_9999, pl_10000, pu_neg, pu_nn, pu_le, pu_lt, pu_eq, pu_cl, pu_in, pu_g, ↓pu_let, ↓pu_bind, pu_m1, pu_add, pu_mul, Nat.not_lt_zero, if_false, if_true, Nat.zero_le, pu_d2, pu_d100, pu_em1, ↓reduceIte, Nat.reduceEqDiff, Nat.reduceLT, Nat.reduceLeDiff, Nat.reduceAdd, Nat.reduceMul, Nat.reduceSub, not_true_eq_false, not_false_eq_true, and_true, true_and, and_false, false_and, or_true, true_or, or_false, false_or, Nat.lt_irrefl, Nat.le_refl, Nat.add_zero, Bool.false_eq_true, ↓pu_gI, nd_le, nd_leT, nd_lt, nd_ltT, nd_eq, nd_eqT, e0, e]
  · obtain ⟨a', e, t⟩ := j35 (h.push 50) (by rw [len1]; omega)
    rw [List.append_assoc] at t
    refine ⟨a', ?_, t⟩
    simp (disch := omega) only [Md_hiding, Md_hiding_j18, Md_hiding_j24, pl_0, pl_1, pl_2, pl_3, pl_4, pl_5, pl_6, pl_7, pl_8, pl_9, pl_10, pl_11, pl_12, pl_13, pl_14, pl_15, pl_16, pl_17, pl_18, pl_19, pl_20, pl_21, pl_30, pl_40, pl_50, pl_51, pl_60, pl_70, pl_71, pl_99, pl_100, pl_160, pl_240, pl_256, pl_300, pl_999, pl_1000, pl_1280, pl_9999, pl_10000, pu_neg, pu_nn, pu_le, pu_lt, pu_eq, pu_cl, pu_in, pu_g, ↓pu_let, ↓pu_bind, pu_m1, pu_add, pu_mul, Nat.not_lt_zero, if_false, if_true, Nat.zero_le, pu_d2, pu_d100, pu_em1, ↓reduceIte, Nat.reduceEqDiff, Nat.reduceLT, Nat.reduceLeDiff, Nat.reduceAdd, Nat.reduceMul, Nat.reduceSub, not_true_eq_false, not_false_eq_true, and_true, true_and, and_false, false_and, or_true, true_or, or_false, false_or, Nat.lt_irrefl, Nat.le_refl, Nat.add_zero, Bool.false_eq_true, ↓pu_gI, nd_le, nd_leT, nd_lt, nd_ltT, nd_eq, nd_eqT, e0, md_body h (by omega), e]
  · obtain ⟨a', e, t⟩ := j35 (h.push 60) (by rw [len1]; omega)
    rw [List.append_assoc] at t
    refine ⟨a', ?_, t⟩
    simp (disch := omega) only [Md_hiding, Md_hiding_j24, pl_0, pl_1, pl_2, pl_3, pl_4, pl_5, pl_6, pl_7, pl_8, pl_9, pl_10, pl_11, pl_12, pl_13, pl_14, pl_15, pl_16, pl_17, pl_18, pl_19, pl_20, pl_21, pl_30, pl_40, pl_50, pl_51, pl_60, pl_70, pl_71, pl_99, pl_100, pl_160, pl_240, pl_256, pl_300, pl_999, pl_1000, pl_1280, pl_9999, pl_10000, pu_neg, pu_nn, pu_le, pu_lt, pu_eq, pu_cl, pu_in, pu_g, ↓pu_let, ↓pu_bind, pu_m1, pu_add, pu_mul, Nat.not_lt_zero, if_false, if_true, Nat.zero_le, pu_d2, pu_d100, pu_em1, ↓reduceIte, Nat.reduceEqDiff, Nat.reduceLT, Nat.reduceLeDiff, Nat.reduceAdd, Nat.reduceMul, Nat.reduceSub, not_true_eq_false, not_false_eq_true, and_true, true_and, and_false, false_and, or_true, true_or, or_false, false_or, Nat.lt_irrefl, Nat.le_refl, Nat.add_zero, Bool.false_eq_true, ↓pu_gI, nd_le, nd_leT, nd_lt, nd_ltT, nd_eq, nd_eqT, e0, md_body h (by omega), e]
  · obtain ⟨a', e, t⟩ := j35 (h.push 50) (by rw [len1]; omega)
    rw [List.append_assoc] at t
    refine ⟨a', ?_, t⟩
    simp (disch := omega) only [Md_hiding, Md_hiding_j18, Md_hiding_j24, pl_0, pl_1, pl_2, pl_3, pl_4, pl_5, pl_6, pl_7, pl_8, pl_9, pl_10, pl_11, pl_12, pl_13, pl_14, pl_15, pl_16, pl_17, pl_18, pl_19, pl_20, pl_21, pl_30, pl_40, pl_50, pl_51, pl_60, pl_70, pl_71, pl_99, pl_100, pl_160, pl_240, pl_256, pl_300, pl_999, pl_1000, pl_1280, pl_9999, pl_10000, pu_neg, pu_nn, pu_le, pu_lt, pu_eq, pu_cl, pu_in, pu_g, ↓pu_let, ↓pu_bind, pu_m1, pu_add, pu_mul, Nat.not_lt_zero, if_false, if_true, Nat.zero_le, pu_d2, pu_d100, pu_em1, ↓reduceIte, Nat.reduceEqDiff, Nat.reduceLT, Nat.reduceLeDiff, Nat.reduceAdd, Nat.reduceMul, Nat.reduceSub, not_true_eq_false, not_false_eq_true, and_true, true_and, and_false, false_and, or_true, true_or, or_false, false_or, Nat.lt_irrefl, Nat.le_refl, Nat.add_zero, Bool.false_eq_true, ↓pu_gI, nd_le, nd_leT, nd_lt, nd_ltT, nd_eq, nd_eqT, e0, md_body h (by omega), e]
/-- a trace made on both sides -/
theorem ok_act {f g : nm_St → Option (Int32 × nm_St)} {U : is_T} {E : Nat → Nat → Int64} (h : RelT σ T U E) (v : Int32) (l : List Nat) (hl : l.length ≤ 20) (hf : ∃ τ, f σ = some (v, τ) ∧ τ.1 51 1 = nI l.length ∧ (∀ i, i < l.length → τ.1 52 i = nI (l.getD i 0)) ∧ Fr [0, 4] σ τ) (hg : ∀ τ, MF τ T U E → ∃ τ', g τ = some (v, τ') ∧ TM τ T l τ') : OkB σ f g := by
  obtain ⟨hc, hm, hp, hx⟩ := h
  obtain ⟨τ, e1, c1, c2, f1⟩ := hf
  obtain ⟨τ', e2, m1, m2, m3, f2⟩ := hg τ (hm.fr f1 rfl rfl rfl)
  have F : Fr [0, 4, 14] σ τ' := (f1.mono rfl).tr (f2.mono rfl)
  have hz : ZR σ := by
    obtain ⟨r, -, -, -, -, z⟩ := hx.2.2.2
    exact z
  refine ⟨v, τ, τ', e1, e2, T, U, E, hc.fr F rfl rfl, hm.fr F rfl rfl rfl, hp, hx.1.fr F rfl rfl, ?_, hx.2.2.1.fr F rfl rfl, ⟨l.length, by omega, ?_, m1, fun i hi hj => ?_, hz.fr F rfl⟩⟩
  · rw [(F 0 10 rfl).1, (F 70 6 rfl).1]; exact hx.2.1
  · rw [(f2 51 1 rfl).1]; exact c1
  · rw [(f2 52 i rfl).1, c2 i hi, m2 i hi]
theorem op_act {U : is_T} {E : Nat → Nat → Int64} (h : RelT σ T U E) (p1 p2 p3 : Int32) : OkB σ (Nm_act p1 p2 p3) (Md_act p1 p2 p3) := by
  have hI := h.2.2.1.1
  have hc := hI.1
  have F0 : Fr [0, 4] σ (nm_pI σ 51 1 (nI 0)) := (Fr.rf _ _).pI _ rfl
  have i0 := h.1.1.fr2 F0 rfl
  have M0 : ∀ {τ : nm_St}, MF τ T U E → TM τ T [] (nm_pI τ 70 35 (nI 0)) := fun {τ} hm => ⟨pI_eq _ _ _ _, fun i hi => absurd hi (Nat.not_lt_zero _), hm.1.fr ((Fr.rf [14] τ).pI _ rfl) rfl, (Fr.rf _ _).pI _ rfl⟩
  have none : (∀ τ : nm_St, MdR τ T → Md_isMaker p1 τ = some (nI 0, τ)) ∧ Is_isMaker 2 p1 (nm_pI σ 51 1 (nI 0)) = some (nI 0, nm_pI σ 51 1 (nI 0)) ∨ (p2 < 0 ∨ nI 3 ≤ p2) ∧ (∃ m, m < T 0 6 ∧ p1 = nI m) → OkB σ (Nm_act p1 p2 p3) (Md_act p1 p2 p3) := fun hb => by
    refine ok_act h (nI 0) [] (by decide) ⟨nm_pI σ 51 1 (nI 0), ?_, pI_eq _ _ _ _, fun i hi => absurd hi (Nat.not_lt_zero _), F0⟩ (fun τ hτ => ⟨_, ?_, M0 hτ⟩)
    · rcases hb with ⟨-, k⟩ | ⟨k, m, hm, rfl⟩
      · simp (disch := omega) only [Nm_act, Mo_begin, pl_0, pl_1, pl_2, pl_3, pl_4, pl_5, pl_6, pl_7, pl_8, pl_9, pl_10, pl_11, pl_12, pl_13, pl_14, pl_15, pl_16, pl_17, pl_18, pl_19, pl_20, pl_21, pl_30, pl_40, pl_50, pl_51, pl_60, pl_70, pl_71, pl_99, pl_100, pl_160, pl_240, pl_256, pl_300, pl_999, pl_1000, pl_1280, pl_9999, pl_10000, pu_neg, pu_nn, pu_le, pu_lt, pu_eq, pu_cl, pu_in, pu_g, ↓pu_let, ↓pu_bind, pu_m1, pu_add, pu_mul, Nat.not_lt_zero, if_false, if_true, Nat.zero_le, pu_d2, pu_d100, pu_em1, ↓reduceIte, Nat.reduceEqDiff, Nat.reduceLT, Nat.reduceLeDiff, Nat.reduceAdd, Nat.reduceMul, Nat.reduceSub, not_true_eq_false, not_false_eq_true, and_true, true_and, and_false, false_and, or_true, true_or, or_false, false_or, Nat.lt_irrefl, Nat.le_refl, Nat.add_zero, Bool.false_eq_true, ↓pu_gI, nd_le, nd_leT, nd_lt, nd_ltT, nd_eq, nd_eqT, k]
      · rcases k with k | k
        · simp (disch := omega) only [Nm_act, Mo_begin, pl_0, pl_1, pl_2, pl_3, pl_4, pl_5, pl_6, pl_7, pl_8, pl_9, pl_10, pl_11, pl_12, pl_13, pl_14, pl_15, pl_16, pl_17, pl_18, pl_19, pl_20, pl_21, pl_30, pl_40, pl_50, pl_51, pl_60, pl_70, pl_71, pl_99, pl_100, pl_160, pl_240, pl_256, pl_300, pl_999, pl_1000, pl_1280, pl_9999, pl_10000, pu_neg, pu_nn, pu_le, pu_lt, pu_eq, pu_cl, pu_in, pu_g, ↓pu_let, ↓pu_bind, pu_m1, pu_add, pu_mul, Nat.not_lt_zero, if_false, if_true, Nat.zero_le, pu_d2, pu_d100, pu_em1, ↓reduceIte, Nat.reduceEqDiff, Nat.reduceLT, Nat.reduceLeDiff, Nat.reduceAdd, Nat.reduceMul, Nat.reduceSub, not_true_eq_false, not_false_eq_true, and_true, true_and, and_false, false_and, or_true, true_or, or_false, false_or, Nat.lt_irrefl, Nat.le_refl, Nat.add_zero, Bool.false_eq_true, ↓pu_gI, nd_le, nd_leT, nd_lt, nd_ltT, nd_eq, nd_eqT, is_isMaker_v i0 hI hm, ngl k, nge k, ngle k, nggt k, ngne k]
        · simp (disch := omega) only [Nm_act, Mo_begin, pl_0, pl_1, pl_2, pl_3, pl_4, pl_5, pl_6, pl_7, pl_8, pl_9, pl_10, pl_11, pl_12, pl_13, pl_14, pl_15, pl_16, pl_17, pl_18, pl_19, pl_20, pl_21, pl_30, pl_40, pl_50, pl_51, pl_60, pl_70, pl_71, pl_99, pl_100, pl_160, pl_240, pl_256, pl_300, pl_999, pl_1000, pl_1280, pl_9999, pl_10000, pu_neg, pu_nn, pu_le, pu_lt, pu_eq, pu_cl, pu_in, pu_g, ↓pu_let, ↓pu_bind, pu_m1, pu_add, pu_mul, Nat.not_lt_zero, if_false, if_true, Nat.zero_le, pu_d2, pu_d100, pu_em1, ↓reduceIte, Nat.reduceEqDiff, Nat.reduceLT, Nat.reduceLeDiff, Nat.reduceAdd, Nat.reduceMul, Nat.reduceSub, not_true_eq_false, not_false_eq_true, and_true, true_and, and_false, false_and, or_true, true_or, or_false, false_or, Nat.lt_irrefl, Nat.le_refl, Nat.add_zero, Bool.false_eq_true, ↓pu_gI, nd_le, nd_leT, nd_lt, nd_ltT, nd_eq, nd_eqT, is_isMaker_v i0 hI hm, bgl k, bge k, bgle k, bggt k, bgne k, bgm1 k]
    · have m0 := (M0 hτ).2.2.1
      rcases hb with ⟨k, -⟩ | ⟨k, m, hm, rfl⟩
      · simp (disch := omega) only [Md_act, pl_0, pl_1, pl_2, pl_3, pl_4, pl_5, pl_6, pl_7, pl_8, pl_9, pl_10, pl_11, pl_12, pl_13, pl_14, pl_15, pl_16, pl_17, pl_18, pl_19, pl_20, pl_21, pl_30, pl_40, pl_50, pl_51, pl_60, pl_70, pl_71, pl_99, pl_100, pl_160, pl_240, pl_256, pl_300, pl_999, pl_1000, pl_1280, pl_9999, pl_10000, pu_neg, pu_nn, pu_le, pu_lt, pu_eq, pu_cl, pu_in, pu_g, ↓pu_let, ↓pu_bind, pu_m1, pu_add, pu_mul, Nat.not_lt_zero, if_false, if_true, Nat.zero_le, pu_d2, pu_d100, pu_em1, ↓reduceIte, Nat.reduceEqDiff, Nat.reduceLT, Nat.reduceLeDiff, Nat.reduceAdd, Nat.reduceMul, Nat.reduceSub, not_true_eq_false, not_false_eq_true, and_true, true_and, and_false, false_and, or_true, true_or, or_false, false_or, Nat.lt_irrefl, Nat.le_refl, Nat.add_zero, Bool.false_eq_true, ↓pu_gI, nd_le, nd_leT, nd_lt, nd_ltT, nd_eq, nd_eqT, k _ m0]
      · rcases k with k | k
        · simp (disch := omega) only [Md_act, pl_0, pl_1, pl_2, pl_3, pl_4, pl_5, pl_6, pl_7, pl_8, pl_9, pl_10, pl_11, pl_12, pl_13, pl_14, pl_15, pl_16, pl_17, pl_18, pl_19, pl_20, pl_21, pl_30, pl_40, pl_50, pl_51, pl_60, pl_70, pl_71, pl_99, pl_100, pl_160, pl_240, pl_256, pl_300, pl_999, pl_1000, pl_1280, pl_9999, pl_10000, pu_neg, pu_nn, pu_le, pu_lt, pu_eq, pu_cl, pu_in, pu_g, ↓pu_let, ↓pu_bind, pu_m1, pu_add, pu_mul, Nat.not_lt_zero, if_false, if_true, Nat.zero_le, pu_d2, pu_d100, pu_em1, ↓reduceIte, Nat.reduceEqDiff, Nat.reduceLT, Nat.reduceLeDiff, Nat.reduceAdd, Nat.reduceMul, Nat.reduceSub, not_true_eq_false, not_false_eq_true, and_true, true_and, and_false, false_and, or_true, true_or, or_false, false_or, Nat.lt_irrefl, Nat.le_refl, Nat.add_zero, Bool.false_eq_true, ↓pu_gI, nd_le, nd_leT, nd_lt, nd_ltT, nd_eq, nd_eqT, md_isMaker_v m0 hI hm, ngl k, nge k, ngle k, nggt k, ngne k]
        · simp (disch := omega) only [Md_act, pl_0, pl_1, pl_2, pl_3, pl_4, pl_5, pl_6, pl_7, pl_8, pl_9, pl_10, pl_11, pl_12, pl_13, pl_14, pl_15, pl_16, pl_17, pl_18, pl_19, pl_20, pl_21, pl_30, pl_40, pl_50, pl_51, pl_60, pl_70, pl_71, pl_99, pl_100, pl_160, pl_240, pl_256, pl_300, pl_999, pl_1000, pl_1280, pl_9999, pl_10000, pu_neg, pu_nn, pu_le, pu_lt, pu_eq, pu_cl, pu_in, pu_g, ↓pu_let, ↓pu_bind, pu_m1, pu_add, pu_mul, Nat.not_lt_zero, if_false, if_true, Nat.zero_le, pu_d2, pu_d100, pu_em1, ↓reduceIte, Nat.reduceEqDiff, Nat.reduceLT, Nat.reduceLeDiff, Nat.reduceAdd, Nat.reduceMul, Nat.reduceSub, not_true_eq_false, not_false_eq_true, and_true, true_and, and_false, false_and, or_true, true_or, or_false, false_or, Nat.lt_irrefl, Nat.le_refl, Nat.add_zero, Bool.false_eq_true, ↓pu_gI, nd_le, nd_leT, nd_lt, nd_ltT, nd_eq, nd_eqT, md_isMaker_v m0 hI hm, bgl k, bge k, bgle k, bggt k, bgne k, bgm1 k]
  rcases is_ix p1 hI with h1 | h1 | ⟨m, hm, rfl⟩
  · exact none (Or.inl ⟨fun τ hτ => md_isMaker_n hτ (Or.inl h1), is_isMaker_n i0 hI (Or.inl h1)⟩)
  · exact none (Or.inl ⟨fun τ hτ => md_isMaker_n hτ (Or.inr h1), is_isMaker_n i0 hI (Or.inr h1)⟩)
  rcases pu_ix p2 3 (by omega) with h2 | h2 | ⟨v, hv, rfl⟩
  · exact none (Or.inr ⟨Or.inl h2, m, hm, rfl⟩)
  · exact none (Or.inr ⟨Or.inr h2, m, hm, rfl⟩)
  have hm8 : m < 8 := by omega
  obtain ⟨k, hk⟩ : ∃ k, T 1 m = k := ⟨_, rfl⟩
  have hk6 := (hI.2.2.2.2 m hm8).1
  have hk7 : k < 7 := by omega
  -- the state in which the bodies run
  have F3 : Fr [0, 4] σ (nm_pI (nm_pI (nm_pI (nm_pI σ 51 1 (nI 0)) 51 2 (nI m)) 51 3 (nI k)) 51 4 (nI (T 2 m))) := ((F0.pI _ rfl).pI _ rfl).pI _ rfl
  have S0 : TS σ k m (T 2 m) [] (nm_pI (nm_pI (nm_pI (nm_pI σ 51 1 (nI 0)) 51 2 (nI m)) 51 3 (nI k)) 51 4 (nI (T 2 m))) := by
    refine ⟨?_, ?_, ?_, pI_eq _ _ _ _, fun i hi => absurd hi (Nat.not_lt_zero _), F3⟩
    · rw [pI_ne _ _ (by omega), pI_ne _ _ (by omega), pI_ne _ _ (by omega), pI_eq]; rfl
    · rw [pI_ne _ _ (by omega), pI_ne _ _ (by omega), pI_eq]
    · rw [pI_ne _ _ (by omega), pI_eq]
  have i1 := h.1.1.fr2 (F0.pI (a := 51) (b := 2) (nI m) rfl) rfl
  have i2 := h.1.1.fr2 ((F0.pI (a := 51) (b := 2) (nI m) rfl).pI (a := 51) (b := 3) (nI k) rfl) rfl
  have kk := is_kindOf i1 hI hm
  rw [hk] at kk
  have ka := is_aOf i2 hI hm
  have run : Nm_act (nI m) (nI v) p3 σ = (Mo_run 40 (nI k) (nI v) p3 (nI 0) (nm_pI (nm_pI (nm_pI (nm_pI σ 51 1 (nI 0)) 51 2 (nI m)) 51 3 (nI k)) 51 4 (nI (T 2 m)))).bind fun q => some (q.1, q.2) := by
    simp (disch := omega) only [Nm_act, Mo_begin, pl_0, pl_1, pl_2, pl_3, pl_4, pl_5, pl_6, pl_7, pl_8, pl_9, pl_10, pl_11, pl_12, pl_13, pl_14, pl_15, pl_16, pl_17, pl_18, pl_19, pl_20, pl_21, pl_30, pl_40, pl_50, pl_51, pl_60, pl_70, pl_71, pl_99, pl_100, pl_160, pl_240, pl_256, pl_300, pl_999, pl_1000, pl_1280, pl_9999, pl_10000, pu_neg, pu_nn, pu_le, pu_lt, pu_eq, pu_cl, pu_in, pu_g, ↓pu_let, ↓pu_bind, pu_m1, pu_add, pu_mul, Nat.not_lt_zero, if_false, if_true, Nat.zero_le, pu_d2, pu_d100, pu_em1, ↓reduceIte, Nat.reduceEqDiff, Nat.reduceLT, Nat.reduceLeDiff, Nat.reduceAdd, Nat.reduceMul, Nat.reduceSub, not_true_eq_false, not_false_eq_true, and_true, true_and, and_false, false_and, or_true, true_or, or_false, false_or, Nat.lt_irrefl, Nat.le_refl, Nat.add_zero, Bool.false_eq_true, ↓pu_gI, nd_le, nd_leT, nd_lt, nd_ltT, nd_eq, nd_eqT, is_isMaker_v i0 hI hm, kk, ka, pI_ne, pI_eq, bind_eta]
  rw [bind_eta] at run
  have hv3 : v = 0 ∨ v = 1 ∨ v = 2 := by omega
  have hB := blB_len k
  have hS := slB_len k
  have hH : (hiB k).length ≤ 10 := by
    unfold hiB
    repeat' split
    all_goals simp only [List.length_append, List.length_cons, List.length_nil]; omega
  rcases hv3 with rfl | rfl | rfl
  · obtain ⟨a', e, t⟩ := mo_blow (σ := σ) (k := k) (m := m) (A := T 2 m) k hk7 37 0 p3 _ _ S0 (by decide) (by omega)
    refine ok_act h (blV k m (T 2 m) p3) (blB k) (by omega) ⟨a', run.trans e, t.1, t.2.2.2.2.1, t.2.2.2.2.2⟩ (fun τ hτ => ?_)
    obtain ⟨a2, e2, t2⟩ := md_blow hI hm8 hk (M0 hτ) (by decide) p3
    refine ⟨a2, ?_, t2⟩
    simp (disch := omega) only [Md_act, pl_0, pl_1, pl_2, pl_3, pl_4, pl_5, pl_6, pl_7, pl_8, pl_9, pl_10, pl_11, pl_12, pl_13, pl_14, pl_15, pl_16, pl_17, pl_18, pl_19, pl_20, pl_21, pl_30, pl_40, pl_50, pl_51, pl_60, pl_70, pl_71, pl_99, pl_100, pl_160, pl_240, pl_256, pl_300, pl_999, pl_1000, pl_1280, pl_9999, pl_10000, pu_neg, pu_nn, pu_le, pu_lt, pu_eq, pu_cl, pu_in, pu_g, ↓pu_let, ↓pu_bind, pu_m1, pu_add, pu_mul, Nat.not_lt_zero, if_false, if_true, Nat.zero_le, pu_d2, pu_d100, pu_em1, ↓reduceIte, Nat.reduceEqDiff, Nat.reduceLT, Nat.reduceLeDiff, Nat.reduceAdd, Nat.reduceMul, Nat.reduceSub, not_true_eq_false, not_false_eq_true, and_true, true_and, and_false, false_and, or_true, true_or, or_false, false_or, Nat.lt_irrefl, Nat.le_refl, Nat.add_zero, Bool.false_eq_true, ↓pu_gI, nd_le, nd_leT, nd_lt, nd_ltT, nd_eq, nd_eqT, md_isMaker_v (M0 hτ).2.2.1 hI hm, e2]
  · obtain ⟨a', e, t⟩ := mo_sell (σ := σ) (m := m) (A := T 2 m) hk7 35 0 p3 _ _ S0 (by decide) (by omega)
    refine ok_act h (slV k m (T 2 m) p3) (slB k) (by omega) ⟨a', run.trans e, t.1, t.2.2.2.2.1, t.2.2.2.2.2⟩ (fun τ hτ => ?_)
    obtain ⟨a2, e2, t2⟩ := md_sell hI hm8 hk (M0 hτ) (by decide) p3
    refine ⟨a2, ?_, t2⟩
    simp (disch := omega) only [Md_act, pl_0, pl_1, pl_2, pl_3, pl_4, pl_5, pl_6, pl_7, pl_8, pl_9, pl_10, pl_11, pl_12, pl_13, pl_14, pl_15, pl_16, pl_17, pl_18, pl_19, pl_20, pl_21, pl_30, pl_40, pl_50, pl_51, pl_60, pl_70, pl_71, pl_99, pl_100, pl_160, pl_240, pl_256, pl_300, pl_999, pl_1000, pl_1280, pl_9999, pl_10000, pu_neg, pu_nn, pu_le, pu_lt, pu_eq, pu_cl, pu_in, pu_g, ↓pu_let, ↓pu_bind, pu_m1, pu_add, pu_mul, Nat.not_lt_zero, if_false, if_true, Nat.zero_le, pu_d2, pu_d100, pu_em1, ↓reduceIte, Nat.reduceEqDiff, Nat.reduceLT, Nat.reduceLeDiff, Nat.reduceAdd, Nat.reduceMul, Nat.reduceSub, not_true_eq_false, not_false_eq_true, and_true, true_and, and_false, false_and, or_true, true_or, or_false, false_or, Nat.lt_irrefl, Nat.le_refl, Nat.add_zero, Bool.false_eq_true, ↓pu_gI, nd_le, nd_leT, nd_lt, nd_ltT, nd_eq, nd_eqT, md_isMaker_v (M0 hτ).2.2.1 hI hm, e2]
  · obtain ⟨a', e, t⟩ := mo_hide (σ := σ) (m := m) (A := T 2 m) hk7 33 0 p3 _ _ S0 (by decide) (by omega)
    refine ok_act h (hiV k m (T 2 m) p3) (hiB k) (by omega) ⟨a', run.trans e, t.1, t.2.2.2.2.1, t.2.2.2.2.2⟩ (fun τ hτ => ?_)
    obtain ⟨a2, e2, t2⟩ := md_hide hI hm8 hk (M0 hτ) (by decide) p3
    refine ⟨a2, ?_, t2⟩
    simp (disch := omega) only [Md_act, pl_0, pl_1, pl_2, pl_3, pl_4, pl_5, pl_6, pl_7, pl_8, pl_9, pl_10, pl_11, pl_12, pl_13, pl_14, pl_15, pl_16, pl_17, pl_18, pl_19, pl_20, pl_21, pl_30, pl_40, pl_50, pl_51, pl_60, pl_70, pl_71, pl_99, pl_100, pl_160, pl_240, pl_256, pl_300, pl_999, pl_1000, pl_1280, pl_9999, pl_10000, pu_neg, pu_nn, pu_le, pu_lt, pu_eq, pu_cl, pu_in, pu_g, ↓pu_let, ↓pu_bind, pu_m1, pu_add, pu_mul, Nat.not_lt_zero, if_false, if_true, Nat.zero_le, pu_d2, pu_d100, pu_em1, ↓reduceIte, Nat.reduceEqDiff, Nat.reduceLT, Nat.reduceLeDiff, Nat.reduceAdd, Nat.reduceMul, Nat.reduceSub, not_true_eq_false, not_false_eq_true, and_true, true_and, and_false, false_and, or_true, true_or, or_false, false_or, Nat.lt_irrefl, Nat.le_refl, Nat.add_zero, Bool.false_eq_true, ↓pu_gI, nd_le, nd_leT, nd_lt, nd_ltT, nd_eq, nd_eqT, md_isMaker_v (M0 hτ).2.2.1 hI hm, e2]
end ACM
