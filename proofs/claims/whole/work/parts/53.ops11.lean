/-! who it was that knew -/
def whoN (T : is_T) (E : Nat → Nat → Int64) (s t : Nat) : Nat → Int32
  | 0 => nI (2 ^ T 0 6 - 1)
  | n + 1 => if eN E t n = nI 0 then whoN T E s t n &&& (eN E s n ^^^ -nI 1) else whoN T E s t n &&& eN E s n
def setsB (T : is_T) (E : Nat → Nat → Int64) (s i : Nat) : Bool := decide (un (eN E s i) < 2 ^ T 0 6)
section WHO
variable {σ : nm_St} {T U : is_T} {E : Nat → Nat → Int64}
theorem who_c (x1 x2 x3 : Int32) {b : Nat} (h1 : 1 ≤ b) (h7 : b ≤ 7) : Nm_who_j90 x1 x2 x3 (-nI b) σ = some (-nI b, rfC σ b) ∧ Nm_who_j57 x1 x2 x3 (-nI b) σ = some (-nI b, rfC σ b) ∧ Nm_who_j22 x1 x2 x3 (-nI b) σ = some (-nI b, rfC σ b) := by
  have k : Nm_who_j90 x1 x2 x3 (-nI b) σ = some (-nI b, rfC σ b) := by
    unfold Nm_who_j90
    simp (disch := omega) only [pl_0, pl_1, pl_2, pl_3, pl_4, pl_5, pl_6, pl_7, pl_8, pl_9, pl_10, pl_11, pl_12, pl_13, pl_14, pl_15, pl_16, pl_17, pl_18, pl_19, pl_20, pl_21, pl_30, pl_40, pl_50, pl_51, pl_60, pl_70, pl_71, pl_99, pl_100, pl_160, pl_240, pl_256, pl_300, pl_999, pl_1000, pl_1280, pl_9999, pl_10000, pu_neg, pu_nn, pu_le, pu_lt, pu_eq, pu_cl, pu_in, pu_g, ↓pu_let, ↓pu_bind, pu_m1, pu_add, pu_mul, Nat.not_lt_zero, if_false, if_true, Nat.zero_le, pu_d2, pu_d100, pu_em1, ↓reduceIte, Nat.reduceEqDiff, Nat.reduceLT, Nat.reduceLeDiff, Nat.reduceAdd, Nat.reduceMul, Nat.reduceSub, not_true_eq_false, not_false_eq_true, and_true, true_and, and_false, false_and, or_true, true_or, or_false, false_or, Nat.lt_irrefl, Nat.le_refl, Nat.add_zero, Bool.false_eq_true, ↓pu_gI, nd_le, nd_leT, nd_lt, nd_ltT, nd_eq, nd_eqT, pu_ng, nm_ref]
  have k2 : Nm_who_j57 x1 x2 x3 (-nI b) σ = some (-nI b, rfC σ b) := by
    unfold Nm_who_j57
    simp (disch := omega) only [pl_0, pl_1, pl_2, pl_3, pl_4, pl_5, pl_6, pl_7, pl_8, pl_9, pl_10, pl_11, pl_12, pl_13, pl_14, pl_15, pl_16, pl_17, pl_18, pl_19, pl_20, pl_21, pl_30, pl_40, pl_50, pl_51, pl_60, pl_70, pl_71, pl_99, pl_100, pl_160, pl_240, pl_256, pl_300, pl_999, pl_1000, pl_1280, pl_9999, pl_10000, pu_neg, pu_nn, pu_le, pu_lt, pu_eq, pu_cl, pu_in, pu_g, ↓pu_let, ↓pu_bind, pu_m1, pu_add, pu_mul, Nat.not_lt_zero, if_false, if_true, Nat.zero_le, pu_d2, pu_d100, pu_em1, ↓reduceIte, Nat.reduceEqDiff, Nat.reduceLT, Nat.reduceLeDiff, Nat.reduceAdd, Nat.reduceMul, Nat.reduceSub, not_true_eq_false, not_false_eq_true, and_true, true_and, and_false, false_and, or_true, true_or, or_false, false_or, Nat.lt_irrefl, Nat.le_refl, Nat.add_zero, Bool.false_eq_true, ↓pu_gI, nd_le, nd_leT, nd_lt, nd_ltT, nd_eq, nd_eqT, pu_ng, k]
  refine ⟨k, k2, ?_⟩
  unfold Nm_who_j22
  simp (disch := omega) only [pl_0, pl_1, pl_2, pl_3, pl_4, pl_5, pl_6, pl_7, pl_8, pl_9, pl_10, pl_11, pl_12, pl_13, pl_14, pl_15, pl_16, pl_17, pl_18, pl_19, pl_20, pl_21, pl_30, pl_40, pl_50, pl_51, pl_60, pl_70, pl_71, pl_99, pl_100, pl_160, pl_240, pl_256, pl_300, pl_999, pl_1000, pl_1280, pl_9999, pl_10000, pu_neg, pu_nn, pu_le, pu_lt, pu_eq, pu_cl, pu_in, pu_g, ↓pu_let, ↓pu_bind, pu_m1, pu_add, pu_mul, Nat.not_lt_zero, if_false, if_true, Nat.zero_le, pu_d2, pu_d100, pu_em1, ↓reduceIte, Nat.reduceEqDiff, Nat.reduceLT, Nat.reduceLeDiff, Nat.reduceAdd, Nat.reduceMul, Nat.reduceSub, not_true_eq_false, not_false_eq_true, and_true, true_and, and_false, false_and, or_true, true_or, or_false, false_or, Nat.lt_irrefl, Nat.le_refl, Nat.add_zero, Bool.false_eq_true, ↓pu_gI, nd_le, nd_leT, nd_lt, nd_ltT, nd_eq, nd_eqT, pu_ng, k2]
theorem nm_areSets (h : CF σ T U E) (hP : PF T U) {s n : Nat} (hs : s < 8) (hn : n ≤ U 2 s) : Nm_areSets (54 + 2 * s) (nI n) σ = some (nI (if allF (setsB T E s) n then 1 else 0), σ) := by
  have hsz := (hP.2 s hs).1.2.2
  have hI := hP.1
  unfold Nm_areSets
  simp only [pl_0, pl_1, pl_2, pl_3, pl_4, pl_5, pl_6, pl_7, pl_8, pl_9, pl_10, pl_11, pl_12, pl_13, pl_14, pl_15, pl_16, pl_17, pl_18, pl_19, pl_20, pl_21, pl_30, pl_40, pl_50, pl_51, pl_60, pl_70, pl_71, pl_99, pl_100, pl_160, pl_240, pl_256, pl_300, pl_999, pl_1000, pl_1280, pl_9999, pl_10000]
  refine lp_Q (fun n' i (_ : Unit) => Nm_areSets_l2 (54 + 2 * s) _ n' (nI n) (nI i) σ) n (fun i _ => allF (setsB T E s) i = true) (fun r => r = some (nI (if allF (setsB T E s) n then 1 else 0), σ)) ?_ ?_ 400 0 () (by omega) rfl (by omega)
  · intro n' i _ hi hA ih
    have kN := sh_num h hP hs (show i < U 2 s by omega)
    by_cases z : un (eN E s i) < 2 ^ T 0 6
    · have hs2 := ih () (allF_t hA (by unfold setsB; rw [decide_eq_true z]))
      simp (disch := omega) only [Nm_areSets_l2, pl_0, pl_1, pl_2, pl_3, pl_4, pl_5, pl_6, pl_7, pl_8, pl_9, pl_10, pl_11, pl_12, pl_13, pl_14, pl_15, pl_16, pl_17, pl_18, pl_19, pl_20, pl_21, pl_30, pl_40, pl_50, pl_51, pl_60, pl_70, pl_71, pl_99, pl_100, pl_160, pl_240, pl_256, pl_300, pl_999, pl_1000, pl_1280, pl_9999, pl_10000, pu_neg, pu_nn, pu_le, pu_lt, pu_eq, pu_cl, pu_in, pu_g, ↓pu_let, ↓pu_bind, pu_m1, pu_add, pu_mul, Nat.not_lt_zero, if_false, if_true, Nat.zero_le, pu_d2, pu_d100, pu_em1, ↓reduceIte, Nat.reduceEqDiff, Nat.reduceLT, Nat.reduceLeDiff, Nat.reduceAdd, Nat.reduceMul, Nat.reduceSub, not_true_eq_false, not_false_eq_true, and_true, true_and, and_false, false_and, or_true, true_or, or_false, false_or, Nat.lt_irrefl, Nat.le_refl, Nat.add_zero, Bool.false_eq_true, ↓pu_gI, nd_le, nd_leT, nd_lt, nd_ltT, nd_eq, nd_eqT, kN, is_everyone h.1 hI, sub_x (eN E s i) hI.1, z]
      exact hs2
    · rw [allF_f (i := i) (by unfold setsB; rw [decide_eq_false z]) n hi]
      simp (disch := omega) only [Nm_areSets_l2, pl_0, pl_1, pl_2, pl_3, pl_4, pl_5, pl_6, pl_7, pl_8, pl_9, pl_10, pl_11, pl_12, pl_13, pl_14, pl_15, pl_16, pl_17, pl_18, pl_19, pl_20, pl_21, pl_30, pl_40, pl_50, pl_51, pl_60, pl_70, pl_71, pl_99, pl_100, pl_160, pl_240, pl_256, pl_300, pl_999, pl_1000, pl_1280, pl_9999, pl_10000, pu_neg, pu_nn, pu_le, pu_lt, pu_eq, pu_cl, pu_in, pu_g, ↓pu_let, ↓pu_bind, pu_m1, pu_add, pu_mul, Nat.not_lt_zero, if_false, if_true, Nat.zero_le, pu_d2, pu_d100, pu_em1, ↓reduceIte, Nat.reduceEqDiff, Nat.reduceLT, Nat.reduceLeDiff, Nat.reduceAdd, Nat.reduceMul, Nat.reduceSub, not_true_eq_false, not_false_eq_true, and_true, true_and, and_false, false_and, or_true, true_or, or_false, false_or, Nat.lt_irrefl, Nat.le_refl, Nat.add_zero, Bool.false_eq_true, ↓pu_gI, nd_le, nd_leT, nd_lt, nd_ltT, nd_eq, nd_eqT, kN, is_everyone h.1 hI, sub_x (eN E s i) hI.1, z]
  · intro n' _ hA
    simp (disch := omega) only [Nm_areSets_l2, pl_0, pl_1, pl_2, pl_3, pl_4, pl_5, pl_6, pl_7, pl_8, pl_9, pl_10, pl_11, pl_12, pl_13, pl_14, pl_15, pl_16, pl_17, pl_18, pl_19, pl_20, pl_21, pl_30, pl_40, pl_50, pl_51, pl_60, pl_70, pl_71, pl_99, pl_100, pl_160, pl_240, pl_256, pl_300, pl_999, pl_1000, pl_1280, pl_9999, pl_10000, pu_neg, pu_nn, pu_le, pu_lt, pu_eq, pu_cl, pu_in, pu_g, ↓pu_let, ↓pu_bind, pu_m1, pu_add, pu_mul, Nat.not_lt_zero, if_false, if_true, Nat.zero_le, pu_d2, pu_d100, pu_em1, ↓reduceIte, Nat.reduceEqDiff, Nat.reduceLT, Nat.reduceLeDiff, Nat.reduceAdd, Nat.reduceMul, Nat.reduceSub, not_true_eq_false, not_false_eq_true, and_true, true_and, and_false, false_and, or_true, true_or, or_false, false_or, Nat.lt_irrefl, Nat.le_refl, Nat.add_zero, Bool.false_eq_true, ↓pu_gI, nd_le, nd_leT, nd_lt, nd_ltT, nd_eq, nd_eqT, hA]
theorem nm_whoL (h : CF σ T U E) (hP : PF T U) {s t n : Nat} (hs : s < 8) (ht : t < 8) (hn : n ≤ U 2 s) (hn2 : n ≤ U 2 t) : Nm_whoMayHaveKnown (54 + 2 * s) (54 + 2 * t) (nI n) σ = some (whoN T E s t n, σ) := by
  have hsz := (hP.2 s hs).1.2.2
  have hI := hP.1
  unfold Nm_whoMayHaveKnown
  rw [is_everyone h.1 hI]
  simp only [pl_0, pl_1, pl_2, pl_3, pl_4, pl_5, pl_6, pl_7, pl_8, pl_9, pl_10, pl_11, pl_12, pl_13, pl_14, pl_15, pl_16, pl_17, pl_18, pl_19, pl_20, pl_21, pl_30, pl_40, pl_50, pl_51, pl_60, pl_70, pl_71, pl_99, pl_100, pl_160, pl_240, pl_256, pl_300, pl_999, pl_1000, pl_1280, pl_9999, pl_10000, pu_bind]
  refine lp_Q (fun n' i (_ : Unit) => Nm_whoMayHaveKnown_l12 (54 + 2 * s) (54 + 2 * t) _ n' (nI n) (whoN T E s t i) (nI i) σ) n (fun i _ => True) (fun r => r = some (whoN T E s t n, σ)) ?_ ?_ 400 0 () (by omega) trivial (by omega)
  · intro n' i _ hi _ ih
    have hs2 := ih () trivial
    have kN := sh_num h hP hs (show i < U 2 s by omega)
    have kM := sh_num h hP ht (show i < U 2 t by omega)
    rw [show whoN T E s t (i + 1) = if eN E t i = nI 0 then whoN T E s t i &&& (eN E s i ^^^ -nI 1) else whoN T E s t i &&& eN E s i from rfl] at hs2
    by_cases z : eN E t i = nI 0
    · rw [if_pos z] at hs2
      simp (disch := omega) only [Nm_whoMayHaveKnown_l12, pl_0, pl_1, pl_2, pl_3, pl_4, pl_5, pl_6, pl_7, pl_8, pl_9, pl_10, pl_11, pl_12, pl_13, pl_14, pl_15, pl_16, pl_17, pl_18, pl_19, pl_20, pl_21, pl_30, pl_40, pl_50, pl_51, pl_60, pl_70, pl_71, pl_99, pl_100, pl_160, pl_240, pl_256, pl_300, pl_999, pl_1000, pl_1280, pl_9999, pl_10000, pu_neg, pu_nn, pu_le, pu_lt, pu_eq, pu_cl, pu_in, pu_g, ↓pu_let, ↓pu_bind, pu_m1, pu_add, pu_mul, Nat.not_lt_zero, if_false, if_true, Nat.zero_le, pu_d2, pu_d100, pu_em1, ↓reduceIte, Nat.reduceEqDiff, Nat.reduceLT, Nat.reduceLeDiff, Nat.reduceAdd, Nat.reduceMul, Nat.reduceSub, not_true_eq_false, not_false_eq_true, and_true, true_and, and_false, false_and, or_true, true_or, or_false, false_or, Nat.lt_irrefl, Nat.le_refl, Nat.add_zero, Bool.false_eq_true, ↓pu_gI, nd_le, nd_leT, nd_lt, nd_ltT, nd_eq, nd_eqT, kN, kM, z]
      exact hs2
    · rw [if_neg z] at hs2
      simp (disch := omega) only [Nm_whoMayHaveKnown_l12, pl_0, pl_1, pl_2, pl_3, pl_4, pl_5, pl_6, pl_7, pl_8, pl_9, pl_10, pl_11, pl_12, pl_13, pl_14, pl_15, pl_16, pl_17, pl_18, pl_19, pl_20, pl_21, pl_30, pl_40, pl_50, pl_51, pl_60, pl_70, pl_71, pl_99, pl_100, pl_160, pl_240, pl_256, pl_300, pl_999, pl_1000, pl_1280, pl_9999, pl_10000, pu_neg, pu_nn, pu_le, pu_lt, pu_eq, pu_cl, pu_in, pu_g, ↓pu_let, ↓pu_bind, pu_m1, pu_add, pu_mul, Nat.not_lt_zero, if_false, if_true, Nat.zero_le, pu_d2, pu_d100, pu_em1, ↓reduceIte, Nat.reduceEqDiff, Nat.reduceLT, Nat.reduceLeDiff, Nat.reduceAdd, Nat.reduceMul, Nat.reduceSub, not_true_eq_false, not_false_eq_true, and_true, true_and, and_false, false_and, or_true, true_or, or_false, false_or, Nat.lt_irrefl, Nat.le_refl, Nat.add_zero, Bool.false_eq_true, ↓pu_gI, nd_le, nd_leT, nd_lt, nd_ltT, nd_eq, nd_eqT, kN, kM, z]
      exact hs2
  · intro n' _ _
    simp (disch := omega) only [Nm_whoMayHaveKnown_l12, pl_0, pl_1, pl_2, pl_3, pl_4, pl_5, pl_6, pl_7, pl_8, pl_9, pl_10, pl_11, pl_12, pl_13, pl_14, pl_15, pl_16, pl_17, pl_18, pl_19, pl_20, pl_21, pl_30, pl_40, pl_50, pl_51, pl_60, pl_70, pl_71, pl_99, pl_100, pl_160, pl_240, pl_256, pl_300, pl_999, pl_1000, pl_1280, pl_9999, pl_10000, pu_neg, pu_nn, pu_le, pu_lt, pu_eq, pu_cl, pu_in, pu_g, ↓pu_let, ↓pu_bind, pu_m1, pu_add, pu_mul, Nat.not_lt_zero, if_false, if_true, Nat.zero_le, pu_d2, pu_d100, pu_em1, ↓reduceIte, Nat.reduceEqDiff, Nat.reduceLT, Nat.reduceLeDiff, Nat.reduceAdd, Nat.reduceMul, Nat.reduceSub, not_true_eq_false, not_false_eq_true, and_true, true_and, and_false, false_and, or_true, true_or, or_false, false_or, Nat.lt_irrefl, Nat.le_refl, Nat.add_zero, Bool.false_eq_true, ↓pu_gI, nd_le, nd_leT, nd_lt, nd_ltT, nd_eq, nd_eqT]
theorem md_whoL (h : MF σ T U E) (hP : PF T U) {s t n : Nat} (hs : s < 8) (ht : t < 8) (hn : n ≤ U 2 s) (hn2 : n ≤ U 2 t) : Md_who_l191 (fun (e45 : Int32) (s44 : nm_St) => some (e45, s44)) 400 (nI s) (nI t) (nI n) (nI (2 ^ T 0 6 - 1)) (nI 0) σ = some (whoN T E s t n, σ) := by
  have hsz := (hP.2 s hs).1.2.2
  refine lp_Q (fun n' i (_ : Unit) => Md_who_l191 _ n' (nI s) (nI t) (nI n) (whoN T E s t i) (nI i) σ) n (fun i _ => True) (fun r => r = some (whoN T E s t n, σ)) ?_ ?_ 400 0 () (by omega) trivial (by omega)
  · intro n' i _ hi _ ih
    have hs2 := ih () trivial
    have kN := md_int h hP hs (show i < U 2 s by omega)
    have kM := md_int h hP ht (show i < U 2 t by omega)
    rw [show whoN T E s t (i + 1) = if eN E t i = nI 0 then whoN T E s t i &&& (eN E s i ^^^ -nI 1) else whoN T E s t i &&& eN E s i from rfl] at hs2
    by_cases z : eN E t i = nI 0
    · rw [if_pos z] at hs2
      simp (disch := omega) only [Md_who_l191, pl_0, pl_1, pl_2, pl_3, pl_4, pl_5, pl_6, pl_7, pl_8, pl_9, pl_10, pl_11, pl_12, pl_13, pl_14, pl_15, pl_16, pl_17, pl_18, pl_19, pl_20, pl_21, pl_30, pl_40, pl_50, pl_51, pl_60, pl_70, pl_71, pl_99, pl_100, pl_160, pl_240, pl_256, pl_300, pl_999, pl_1000, pl_1280, pl_9999, pl_10000, pu_neg, pu_nn, pu_le, pu_lt, pu_eq, pu_cl, pu_in, pu_g, ↓pu_let, ↓pu_bind, pu_m1, pu_add, pu_mul, Nat.not_lt_zero, if_false, if_true, Nat.zero_le, pu_d2, pu_d100, pu_em1, ↓reduceIte, Nat.reduceEqDiff, Nat.reduceLT, Nat.reduceLeDiff, Nat.reduceAdd, Nat.reduceMul, Nat.reduceSub, not_true_eq_false, not_false_eq_true, and_true, true_and, and_false, false_and, or_true, true_or, or_false, false_or, Nat.lt_irrefl, Nat.le_refl, Nat.add_zero, Bool.false_eq_true, ↓pu_gI, nd_le, nd_leT, nd_lt, nd_ltT, nd_eq, nd_eqT, kN, kM, z]
      exact hs2
    · rw [if_neg z] at hs2
      simp (disch := omega) only [Md_who_l191, pl_0, pl_1, pl_2, pl_3, pl_4, pl_5, pl_6, pl_7, pl_8, pl_9, pl_10, pl_11, pl_12, pl_13, pl_14, pl_15, pl_16, pl_17, pl_18, pl_19, pl_20, pl_21, pl_30, pl_40, pl_50, pl_51, pl_60, pl_70, pl_71, pl_99, pl_100, pl_160, pl_240, pl_256, pl_300, pl_999, pl_1000, pl_1280, pl_9999, pl_10000, pu_neg, pu_nn, pu_le, pu_lt, pu_eq, pu_cl, pu_in, pu_g, ↓pu_let, ↓pu_bind, pu_m1, pu_add, pu_mul, Nat.not_lt_zero, if_false, if_true, Nat.zero_le, pu_d2, pu_d100, pu_em1, ↓reduceIte, Nat.reduceEqDiff, Nat.reduceLT, Nat.reduceLeDiff, Nat.reduceAdd, Nat.reduceMul, Nat.reduceSub, not_true_eq_false, not_false_eq_true, and_true, true_and, and_false, false_and, or_true, true_or, or_false, false_or, Nat.lt_irrefl, Nat.le_refl, Nat.add_zero, Bool.false_eq_true, ↓pu_gI, nd_le, nd_leT, nd_lt, nd_ltT, nd_eq, nd_eqT, kN, kM, z]
      exact hs2
  · intro n' _ _
    simp (disch := omega) only [Md_who_l191, pl_0, pl_1, pl_2, pl_3, pl_4, pl_5, pl_6, pl_7, pl_8, pl_9, pl_10, pl_11, pl_12, pl_13, pl_14, pl_15, pl_16, pl_17, pl_18, pl_19, pl_20, pl_21, pl_30, pl_40, pl_50, pl_51, pl_60, pl_70, pl_71, pl_99, pl_100, pl_160, pl_240, pl_256, pl_300, pl_999, pl_1000, pl_1280, pl_9999, pl_10000, pu_neg, pu_nn, pu_le, pu_lt, pu_eq, pu_cl, pu_in, pu_g, ↓pu_let, ↓pu_bind, pu_m1, pu_add, pu_mul, Nat.not_lt_zero, if_false, if_true, Nat.zero_le, pu_d2, pu_d100, pu_em1, ↓reduceIte, Nat.reduceEqDiff, Nat.reduceLT, Nat.reduceLeDiff, Nat.reduceAdd, Nat.reduceMul, Nat.reduceSub, not_true_eq_false, not_false_eq_true, and_true, true_and, and_false, false_and, or_true, true_or, or_false, false_or, Nat.lt_irrefl, Nat.le_refl, Nat.add_zero, Bool.false_eq_true, ↓pu_gI, nd_le, nd_leT, nd_lt, nd_ltT, nd_eq, nd_eqT]
theorem md_whoC (h : MF σ T U E) (hP : PF T U) {s t n : Nat} (hs : s < 8) (hn : n ≤ U 2 s) (K : Int32 → Int32 → Int32 → Int32 → nm_St → Option (Int32 × nm_St)) : Md_who_l143 K 400 (nI s) (nI t) (nI n) (nI (2 ^ T 0 6 - 1)) (nI 0) σ = if allF (setsB T E s) n = true then K (nI s) (nI t) (nI n) (nI (2 ^ T 0 6 - 1)) σ else some (-nI 6, rfM σ 6) := by
  have hsz := (hP.2 s hs).1.2.2
  have hI := hP.1
  have hc := hI.1
  have h2p := pu_p2 hc
  refine lp_Q (fun n' i (_ : Unit) => Md_who_l143 K n' (nI s) (nI t) (nI n) (nI (2 ^ T 0 6 - 1)) (nI i) σ) n (fun i _ => allF (setsB T E s) i = true) (fun r => r = if allF (setsB T E s) n = true then K (nI s) (nI t) (nI n) (nI (2 ^ T 0 6 - 1)) σ else some (-nI 6, rfM σ 6)) ?_ ?_ 400 0 () (by omega) rfl (by omega)
  · intro n' i _ hi hA ih
    have kN := md_int h hP hs (show i < U 2 s by omega)
    by_cases z : un (eN E s i) < 2 ^ T 0 6
    · have hs2 := ih () (allF_t hA (by unfold setsB; rw [decide_eq_true z]))
      rw [rg_t (eN E s i)] at kN
      simp (disch := omega) only [Md_who_l143, pl_0, pl_1, pl_2, pl_3, pl_4, pl_5, pl_6, pl_7, pl_8, pl_9, pl_10, pl_11, pl_12, pl_13, pl_14, pl_15, pl_16, pl_17, pl_18, pl_19, pl_20, pl_21, pl_30, pl_40, pl_50, pl_51, pl_60, pl_70, pl_71, pl_99, pl_100, pl_160, pl_240, pl_256, pl_300, pl_999, pl_1000, pl_1280, pl_9999, pl_10000, pu_neg, pu_nn, pu_le, pu_lt, pu_eq, pu_cl, pu_in, pu_g, ↓pu_let, ↓pu_bind, pu_m1, pu_add, pu_mul, Nat.not_lt_zero, if_false, if_true, Nat.zero_le, pu_d2, pu_d100, pu_em1, ↓reduceIte, Nat.reduceEqDiff, Nat.reduceLT, Nat.reduceLeDiff, Nat.reduceAdd, Nat.reduceMul, Nat.reduceSub, not_true_eq_false, not_false_eq_true, and_true, true_and, and_false, false_and, or_true, true_or, or_false, false_or, Nat.lt_irrefl, Nat.le_refl, Nat.add_zero, Bool.false_eq_true, ↓pu_gI, nd_le, nd_leT, nd_lt, nd_ltT, nd_eq, nd_eqT, kN, h.1.c, pu_shl]
      exact hs2
    · rw [allF_f (i := i) (by unfold setsB; rw [decide_eq_false z]) n hi]
      have z1 : ¬ un (eN E s i) ≤ 2 ^ T 0 6 - 1 := by omega
      rcases rg_f (by omega) z1 with hx | hx
      · simp (disch := omega) only [Md_who_l143, pl_0, pl_1, pl_2, pl_3, pl_4, pl_5, pl_6, pl_7, pl_8, pl_9, pl_10, pl_11, pl_12, pl_13, pl_14, pl_15, pl_16, pl_17, pl_18, pl_19, pl_20, pl_21, pl_30, pl_40, pl_50, pl_51, pl_60, pl_70, pl_71, pl_99, pl_100, pl_160, pl_240, pl_256, pl_300, pl_999, pl_1000, pl_1280, pl_9999, pl_10000, pu_neg, pu_nn, pu_le, pu_lt, pu_eq, pu_cl, pu_in, pu_g, ↓pu_let, ↓pu_bind, pu_m1, pu_add, pu_mul, Nat.not_lt_zero, if_false, if_true, Nat.zero_le, pu_d2, pu_d100, pu_em1, ↓reduceIte, Nat.reduceEqDiff, Nat.reduceLT, Nat.reduceLeDiff, Nat.reduceAdd, Nat.reduceMul, Nat.reduceSub, not_true_eq_false, not_false_eq_true, and_true, true_and, and_false, false_and, or_true, true_or, or_false, false_or, Nat.lt_irrefl, Nat.le_refl, Nat.add_zero, Bool.false_eq_true, ↓pu_gI, nd_le, nd_leT, nd_lt, nd_ltT, nd_eq, nd_eqT, kN, ngl hx, nge hx, ngle hx, nggt hx, ngne hx, md_no]
      · rw [show 2 ^ T 0 6 - 1 + 1 = 2 ^ T 0 6 by omega] at hx
        simp (disch := omega) only [Md_who_l143, pl_0, pl_1, pl_2, pl_3, pl_4, pl_5, pl_6, pl_7, pl_8, pl_9, pl_10, pl_11, pl_12, pl_13, pl_14, pl_15, pl_16, pl_17, pl_18, pl_19, pl_20, pl_21, pl_30, pl_40, pl_50, pl_51, pl_60, pl_70, pl_71, pl_99, pl_100, pl_160, pl_240, pl_256, pl_300, pl_999, pl_1000, pl_1280, pl_9999, pl_10000, pu_neg, pu_nn, pu_le, pu_lt, pu_eq, pu_cl, pu_in, pu_g, ↓pu_let, ↓pu_bind, pu_m1, pu_add, pu_mul, Nat.not_lt_zero, if_false, if_true, Nat.zero_le, pu_d2, pu_d100, pu_em1, ↓reduceIte, Nat.reduceEqDiff, Nat.reduceLT, Nat.reduceLeDiff, Nat.reduceAdd, Nat.reduceMul, Nat.reduceSub, not_true_eq_false, not_false_eq_true, and_true, true_and, and_false, false_and, or_true, true_or, or_false, false_or, Nat.lt_irrefl, Nat.le_refl, Nat.add_zero, Bool.false_eq_true, ↓pu_gI, nd_le, nd_leT, nd_lt, nd_ltT, nd_eq, nd_eqT, kN, h.1.c, pu_shl, bgl hx, bge hx, bgle hx, bggt hx, bgne hx, bgm1 hx, md_no]
  · intro n' _ hA
    simp (disch := omega) only [Md_who_l143, pl_0, pl_1, pl_2, pl_3, pl_4, pl_5, pl_6, pl_7, pl_8, pl_9, pl_10, pl_11, pl_12, pl_13, pl_14, pl_15, pl_16, pl_17, pl_18, pl_19, pl_20, pl_21, pl_30, pl_40, pl_50, pl_51, pl_60, pl_70, pl_71, pl_99, pl_100, pl_160, pl_240, pl_256, pl_300, pl_999, pl_1000, pl_1280, pl_9999, pl_10000, pu_neg, pu_nn, pu_le, pu_lt, pu_eq, pu_cl, pu_in, pu_g, ↓pu_let, ↓pu_bind, pu_m1, pu_add, pu_mul, Nat.not_lt_zero, if_false, if_true, Nat.zero_le, pu_d2, pu_d100, pu_em1, ↓reduceIte, Nat.reduceEqDiff, Nat.reduceLT, Nat.reduceLeDiff, Nat.reduceAdd, Nat.reduceMul, Nat.reduceSub, not_true_eq_false, not_false_eq_true, and_true, true_and, and_false, false_and, or_true, true_or, or_false, false_or, Nat.lt_irrefl, Nat.le_refl, Nat.add_zero, Bool.false_eq_true, ↓pu_gI, nd_le, nd_leT, nd_lt, nd_ltT, nd_eq, nd_eqT, hA]
theorem op_who (hP : PF T U) (p1 p2 p3 : Int32) : OkQ T U E (Nm_who p1 p2 p3) (Md_who p1 p2 p3) := by
  have hI := hP.1
  have bad : (p1 < 0 ∨ nI 8 ≤ p1) ∨ (p2 < 0 ∨ nI 8 ≤ p2) → OkQ T U E (Nm_who p1 p2 p3) (Md_who p1 p2 p3) := fun hb => by
    refine qno (b := -nI 1) 1 (by omega) (by omega) (fun σ h => ?_) (fun σ h => ?_)
    · unfold Nm_who
      exact (bnr (n := 1) (nm_ck2_bad _ hb) (by omega) (by omega)).trans (who_c _ _ _ (b := 1) (by omega) (by omega)).2.2
    · have b1 : ∀ x : Int32, (x < 0 ∨ nI 8 ≤ x) → Md_isShelf x σ = some (nI 0, σ) := by
        intro x hx
        rcases hx with hx | hx
        · simp (disch := omega) only [Md_isShelf, pl_0, pl_1, pl_2, pl_3, pl_4, pl_5, pl_6, pl_7, pl_8, pl_9, pl_10, pl_11, pl_12, pl_13, pl_14, pl_15, pl_16, pl_17, pl_18, pl_19, pl_20, pl_21, pl_30, pl_40, pl_50, pl_51, pl_60, pl_70, pl_71, pl_99, pl_100, pl_160, pl_240, pl_256, pl_300, pl_999, pl_1000, pl_1280, pl_9999, pl_10000, pu_neg, pu_nn, pu_le, pu_lt, pu_eq, pu_cl, pu_in, pu_g, ↓pu_let, ↓pu_bind, pu_m1, pu_add, pu_mul, Nat.not_lt_zero, if_false, if_true, Nat.zero_le, pu_d2, pu_d100, pu_em1, ↓reduceIte, Nat.reduceEqDiff, Nat.reduceLT, Nat.reduceLeDiff, Nat.reduceAdd, Nat.reduceMul, Nat.reduceSub, not_true_eq_false, not_false_eq_true, and_true, true_and, and_false, false_and, or_true, true_or, or_false, false_or, Nat.lt_irrefl, Nat.le_refl, Nat.add_zero, Bool.false_eq_true, ↓pu_gI, nd_le, nd_leT, nd_lt, nd_ltT, nd_eq, nd_eqT, ngl hx, nge hx, ngle hx, nggt hx, ngne hx]
        · simp (disch := omega) only [Md_isShelf, pl_0, pl_1, pl_2, pl_3, pl_4, pl_5, pl_6, pl_7, pl_8, pl_9, pl_10, pl_11, pl_12, pl_13, pl_14, pl_15, pl_16, pl_17, pl_18, pl_19, pl_20, pl_21, pl_30, pl_40, pl_50, pl_51, pl_60, pl_70, pl_71, pl_99, pl_100, pl_160, pl_240, pl_256, pl_300, pl_999, pl_1000, pl_1280, pl_9999, pl_10000, pu_neg, pu_nn, pu_le, pu_lt, pu_eq, pu_cl, pu_in, pu_g, ↓pu_let, ↓pu_bind, pu_m1, pu_add, pu_mul, Nat.not_lt_zero, if_false, if_true, Nat.zero_le, pu_d2, pu_d100, pu_em1, ↓reduceIte, Nat.reduceEqDiff, Nat.reduceLT, Nat.reduceLeDiff, Nat.reduceAdd, Nat.reduceMul, Nat.reduceSub, not_true_eq_false, not_false_eq_true, and_true, true_and, and_false, false_and, or_true, true_or, or_false, false_or, Nat.lt_irrefl, Nat.le_refl, Nat.add_zero, Bool.false_eq_true, ↓pu_gI, nd_le, nd_leT, nd_lt, nd_ltT, nd_eq, nd_eqT, bgl hx, bge hx, bgle hx, bggt hx, bgne hx, bgm1 hx]
      unfold Md_who
      rcases hb with hb | hb
      · refine (bn0 (b1 p1 hb)).trans ?_
        exact bind_of (md_no (n := 1) (by omega) (by omega) σ) rfl
      · rcases pu_ix p1 8 (by omega) with h1 | h1 | ⟨p, hp, rfl⟩
        · refine (bn0 (b1 p1 (Or.inl h1))).trans ?_
          exact bind_of (md_no (n := 1) (by omega) (by omega) σ) rfl
        · refine (bn0 (b1 p1 (Or.inr h1))).trans ?_
          exact bind_of (md_no (n := 1) (by omega) (by omega) σ) rfl
        · refine (bn1 (md_isSh hp)).trans ((bn0 (b1 p2 hb)).trans ?_)
          exact bind_of (md_no (n := 1) (by omega) (by omega) σ) rfl
  rcases pu_ix p1 8 (by omega) with h1 | h1 | ⟨s, hs, rfl⟩
  · exact bad (Or.inl (Or.inl h1))
  · exact bad (Or.inl (Or.inr h1))
  rcases pu_ix p2 8 (by omega) with h2 | h2 | ⟨t, ht, rfl⟩
  · exact bad (Or.inr (Or.inl h2))
  · exact bad (Or.inr (Or.inr h2))
  have l1 := (hP.2 s hs).1
  have l2 := (hP.2 t ht).1
  by_cases c2 : U 0 s = 2 ∨ U 0 t = 2
  · have ec : ck2 U s t 0 = 2 := if_pos c2
    refine qno (b := -nI 2) 2 (by omega) (by omega) (fun σ h => ?_) (fun σ h => ?_)
    · have k := nm_ck2 h hP hs ht (show 0 < 2 by omega)
      rw [ec] at k
      unfold Nm_who
      exact (bnr (n := 2) k (by omega) (by omega)).trans (who_c _ _ _ (b := 2) (by omega) (by omega)).2.2
    · unfold Md_who
      refine (bn1 (md_isSh hs)).trans ((bn1 (md_isSh ht)).trans ?_)
      by_cases a1 : U 0 s = 2
      · simp (disch := omega) only [pl_0, pl_1, pl_2, pl_3, pl_4, pl_5, pl_6, pl_7, pl_8, pl_9, pl_10, pl_11, pl_12, pl_13, pl_14, pl_15, pl_16, pl_17, pl_18, pl_19, pl_20, pl_21, pl_30, pl_40, pl_50, pl_51, pl_60, pl_70, pl_71, pl_99, pl_100, pl_160, pl_240, pl_256, pl_300, pl_999, pl_1000, pl_1280, pl_9999, pl_10000, pu_neg, pu_nn, pu_le, pu_lt, pu_eq, pu_cl, pu_in, pu_g, ↓pu_let, ↓pu_bind, pu_m1, pu_add, pu_mul, Nat.not_lt_zero, if_false, if_true, Nat.zero_le, pu_d2, pu_d100, pu_em1, ↓reduceIte, Nat.reduceEqDiff, Nat.reduceLT, Nat.reduceLeDiff, Nat.reduceAdd, Nat.reduceMul, Nat.reduceSub, not_true_eq_false, not_false_eq_true, and_true, true_and, and_false, false_and, or_true, true_or, or_false, false_or, Nat.lt_irrefl, Nat.le_refl, Nat.add_zero, Bool.false_eq_true, ↓pu_gI, nd_le, nd_leT, nd_lt, nd_ltT, nd_eq, nd_eqT, h.held hs, md_no]
      · simp (disch := omega) only [pl_0, pl_1, pl_2, pl_3, pl_4, pl_5, pl_6, pl_7, pl_8, pl_9, pl_10, pl_11, pl_12, pl_13, pl_14, pl_15, pl_16, pl_17, pl_18, pl_19, pl_20, pl_21, pl_30, pl_40, pl_50, pl_51, pl_60, pl_70, pl_71, pl_99, pl_100, pl_160, pl_240, pl_256, pl_300, pl_999, pl_1000, pl_1280, pl_9999, pl_10000, pu_neg, pu_nn, pu_le, pu_lt, pu_eq, pu_cl, pu_in, pu_g, ↓pu_let, ↓pu_bind, pu_m1, pu_add, pu_mul, Nat.not_lt_zero, if_false, if_true, Nat.zero_le, pu_d2, pu_d100, pu_em1, ↓reduceIte, Nat.reduceEqDiff, Nat.reduceLT, Nat.reduceLeDiff, Nat.reduceAdd, Nat.reduceMul, Nat.reduceSub, not_true_eq_false, not_false_eq_true, and_true, true_and, and_false, false_and, or_true, true_or, or_false, false_or, Nat.lt_irrefl, Nat.le_refl, Nat.add_zero, Bool.false_eq_true, ↓pu_gI, nd_le, nd_leT, nd_lt, nd_ltT, nd_eq, nd_eqT, h.held hs, h.held ht, md_no]
  by_cases c0 : U 0 s = 0 ∨ U 0 t = 0
  · have ec : ck2 U s t 0 = 3 := (if_neg c2).trans (if_pos c0)
    refine qno (b := -nI 3) 3 (by omega) (by omega) (fun σ h => ?_) (fun σ h => ?_)
    · have k := nm_ck2 h hP hs ht (show 0 < 2 by omega)
      rw [ec] at k
      unfold Nm_who
      exact (bnr (n := 3) k (by omega) (by omega)).trans (who_c _ _ _ (b := 3) (by omega) (by omega)).2.2
    · unfold Md_who
      refine (bn1 (md_isSh hs)).trans ((bn1 (md_isSh ht)).trans ?_)
      by_cases a1 : U 0 s = 0
      · simp (disch := omega) only [pl_0, pl_1, pl_2, pl_3, pl_4, pl_5, pl_6, pl_7, pl_8, pl_9, pl_10, pl_11, pl_12, pl_13, pl_14, pl_15, pl_16, pl_17, pl_18, pl_19, pl_20, pl_21, pl_30, pl_40, pl_50, pl_51, pl_60, pl_70, pl_71, pl_99, pl_100, pl_160, pl_240, pl_256, pl_300, pl_999, pl_1000, pl_1280, pl_9999, pl_10000, pu_neg, pu_nn, pu_le, pu_lt, pu_eq, pu_cl, pu_in, pu_g, ↓pu_let, ↓pu_bind, pu_m1, pu_add, pu_mul, Nat.not_lt_zero, if_false, if_true, Nat.zero_le, pu_d2, pu_d100, pu_em1, ↓reduceIte, Nat.reduceEqDiff, Nat.reduceLT, Nat.reduceLeDiff, Nat.reduceAdd, Nat.reduceMul, Nat.reduceSub, not_true_eq_false, not_false_eq_true, and_true, true_and, and_false, false_and, or_true, true_or, or_false, false_or, Nat.lt_irrefl, Nat.le_refl, Nat.add_zero, Bool.false_eq_true, ↓pu_gI, nd_le, nd_leT, nd_lt, nd_ltT, nd_eq, nd_eqT, h.held hs, h.held ht, md_no]
      · simp (disch := omega) only [pl_0, pl_1, pl_2, pl_3, pl_4, pl_5, pl_6, pl_7, pl_8, pl_9, pl_10, pl_11, pl_12, pl_13, pl_14, pl_15, pl_16, pl_17, pl_18, pl_19, pl_20, pl_21, pl_30, pl_40, pl_50, pl_51, pl_60, pl_70, pl_71, pl_99, pl_100, pl_160, pl_240, pl_256, pl_300, pl_999, pl_1000, pl_1280, pl_9999, pl_10000, pu_neg, pu_nn, pu_le, pu_lt, pu_eq, pu_cl, pu_in, pu_g, ↓pu_let, ↓pu_bind, pu_m1, pu_add, pu_mul, Nat.not_lt_zero, if_false, if_true, Nat.zero_le, pu_d2, pu_d100, pu_em1, ↓reduceIte, Nat.reduceEqDiff, Nat.reduceLT, Nat.reduceLeDiff, Nat.reduceAdd, Nat.reduceMul, Nat.reduceSub, not_true_eq_false, not_false_eq_true, and_true, true_and, and_false, false_and, or_true, true_or, or_false, false_or, Nat.lt_irrefl, Nat.le_refl, Nat.add_zero, Bool.false_eq_true, ↓pu_gI, nd_le, nd_leT, nd_lt, nd_ltT, nd_eq, nd_eqT, h.held hs, h.held ht, md_no]
  have e0 : U 0 s = 1 := by omega
  have f0 : U 0 t = 1 := by omega
  have ec : ck2 U s t 0 = 0 := (if_neg c2).trans ((if_neg c0).trans (if_neg (by simp)))
  have kc : ∀ σ, CF σ T U E → Nm_checkTwoRows (nI s) (nI t) (nI 0) σ = some (nI 0, σ) := fun σ h => by
    have k := nm_ck2 h hP hs ht (show 0 < 2 by omega)
    rw [ec] at k
    exact k
  by_cases h3 : p3 < 0
  · refine qno (b := -nI 4) 4 (by omega) (by omega) (fun σ h => ?_) (fun σ h => ?_)
    · unfold Nm_who
      refine (bn0 (kc σ h)).trans ?_
      have g := nge h3 (show 0 < 2147483648 by omega)
      rw [nI_0] at g
      rw [if_neg (show ¬ 0 ≤ p3 by rw [g]; exact id)]
      exact (who_c _ _ _ (b := 4) (by omega) (by omega)).2.2
    · unfold Md_who
      refine (bn1 (md_isSh hs)).trans ((bn1 (md_isSh ht)).trans ?_)
      simp (disch := omega) only [pl_0, pl_1, pl_2, pl_3, pl_4, pl_5, pl_6, pl_7, pl_8, pl_9, pl_10, pl_11, pl_12, pl_13, pl_14, pl_15, pl_16, pl_17, pl_18, pl_19, pl_20, pl_21, pl_30, pl_40, pl_50, pl_51, pl_60, pl_70, pl_71, pl_99, pl_100, pl_160, pl_240, pl_256, pl_300, pl_999, pl_1000, pl_1280, pl_9999, pl_10000, pu_neg, pu_nn, pu_le, pu_lt, pu_eq, pu_cl, pu_in, pu_g, ↓pu_let, ↓pu_bind, pu_m1, pu_add, pu_mul, Nat.not_lt_zero, if_false, if_true, Nat.zero_le, pu_d2, pu_d100, pu_em1, ↓reduceIte, Nat.reduceEqDiff, Nat.reduceLT, Nat.reduceLeDiff, Nat.reduceAdd, Nat.reduceMul, Nat.reduceSub, not_true_eq_false, not_false_eq_true, and_true, true_and, and_false, false_and, or_true, true_or, or_false, false_or, Nat.lt_irrefl, Nat.le_refl, Nat.add_zero, Bool.false_eq_true, ↓pu_gI, nd_le, nd_leT, nd_lt, nd_ltT, nd_eq, nd_eqT, h.held hs, h.held ht, e0, f0, ngl h3, nge h3, ngle h3, nggt h3, ngne h3, md_no]
  obtain ⟨n, hn, rfl⟩ := nI_of h3
  clear h3
  have kA : ∀ σ, CF σ T U E → Nm_who (nI s) (nI t) (nI n) σ = if n ≤ U 2 s ∧ n ≤ U 2 t then Nm_who_j57 (nI s) (nI t) (nI n) (nI 0) σ else some (-nI 5, rfC σ 5) := fun σ h => by
    unfold Nm_who
    refine (bn0 (kc σ h)).trans ?_
    rw [if_pos (nI_pos' (by omega))]
    unfold Nm_who_j22 Nm_who_j53
    have := (who_c (σ := σ) (nI s) (nI t) (nI n) (b := 5) (by omega) (by omega)).2.1
    simp (disch := omega) only [pl_0, pl_1, pl_2, pl_3, pl_4, pl_5, pl_6, pl_7, pl_8, pl_9, pl_10, pl_11, pl_12, pl_13, pl_14, pl_15, pl_16, pl_17, pl_18, pl_19, pl_20, pl_21, pl_30, pl_40, pl_50, pl_51, pl_60, pl_70, pl_71, pl_99, pl_100, pl_160, pl_240, pl_256, pl_300, pl_999, pl_1000, pl_1280, pl_9999, pl_10000, pu_neg, pu_nn, pu_le, pu_lt, pu_eq, pu_cl, pu_in, pu_g, ↓pu_let, ↓pu_bind, pu_m1, pu_add, pu_mul, Nat.not_lt_zero, if_false, if_true, Nat.zero_le, pu_d2, pu_d100, pu_em1, ↓reduceIte, Nat.reduceEqDiff, Nat.reduceLT, Nat.reduceLeDiff, Nat.reduceAdd, Nat.reduceMul, Nat.reduceSub, not_true_eq_false, not_false_eq_true, and_true, true_and, and_false, false_and, or_true, true_or, or_false, false_or, Nat.lt_irrefl, Nat.le_refl, Nat.add_zero, Bool.false_eq_true, ↓pu_gI, nd_le, nd_leT, nd_lt, nd_ltT, nd_eq, nd_eqT, sf_n, h.size hs, h.size ht, this]
    by_cases a : n ≤ U 2 s
    · by_cases b : n ≤ U 2 t <;> simp [a, b, Nat.not_lt.mpr a]
    · simp [a, Nat.lt_of_not_le a]
  have kM : ∀ σ, MF σ T U E → Md_who (nI s) (nI t) (nI n) σ = if n ≤ U 2 s ∧ n ≤ U 2 t then (if n < 1 ∨ 40 < n then some (-nI 6, rfM σ 6) else Md_who_l143 (fun (e34 : Int32) (e35 : Int32) (e36 : Int32) (e37 : Int32) (s33 : nm_St) => Md_who_l191 (fun (e45 : Int32) (s44 : nm_St) => some (e45, s44)) 400 e34 e35 e36 e37 (nI 0) s33) 400 (nI s) (nI t) (nI n) (nI (2 ^ T 0 6 - 1)) (nI 0) σ) else some (-nI 5, rfM σ 5) := fun σ h => by
    unfold Md_who
    refine (bn1 (md_isSh hs)).trans ((bn1 (md_isSh ht)).trans ?_)
    simp (disch := omega) only [pl_0, pl_1, pl_2, pl_3, pl_4, pl_5, pl_6, pl_7, pl_8, pl_9, pl_10, pl_11, pl_12, pl_13, pl_14, pl_15, pl_16, pl_17, pl_18, pl_19, pl_20, pl_21, pl_30, pl_40, pl_50, pl_51, pl_60, pl_70, pl_71, pl_99, pl_100, pl_160, pl_240, pl_256, pl_300, pl_999, pl_1000, pl_1280, pl_9999, pl_10000, pu_neg, pu_nn, pu_le, pu_lt, pu_eq, pu_cl, pu_in, pu_g, ↓pu_let, ↓pu_bind, pu_m1, pu_add, pu_mul, Nat.not_lt_zero, if_false, if_true, Nat.zero_le, pu_d2, pu_d100, pu_em1, ↓reduceIte, Nat.reduceEqDiff, Nat.reduceLT, Nat.reduceLeDiff, Nat.reduceAdd, Nat.reduceMul, Nat.reduceSub, not_true_eq_false, not_false_eq_true, and_true, true_and, and_false, false_and, or_true, true_or, or_false, false_or, Nat.lt_irrefl, Nat.le_refl, Nat.add_zero, Bool.false_eq_true, ↓pu_gI, nd_le, nd_leT, nd_lt, nd_ltT, nd_eq, nd_eqT, h.held hs, h.held ht, h.size hs e0, h.size ht f0, e0, f0, h.1.c, pu_all hI.1, md_no]
    by_cases a : n ≤ U 2 s
    · by_cases b : n ≤ U 2 t
      · by_cases c : n < 1
        · simp [a, b, c, Nat.not_lt.mpr a]
        · by_cases d : n ≤ 40
          · simp [a, b, c, d, Nat.not_lt.mpr a, Nat.not_lt.mpr d]
          · simp [a, b, c, d, Nat.not_lt.mpr a, Nat.lt_of_not_le d]
      · simp [a, b, Nat.not_lt.mpr a]
    · simp [a, Nat.lt_of_not_le a]
  by_cases w : n ≤ U 2 s ∧ n ≤ U 2 t
  · have kI : ∀ σ : nm_St, Nm_isWithin (nI n) (nI 1) (nI 40) σ = some (nI (if n < 1 ∨ 40 < n then 0 else 1), σ) := fun σ => by
      unfold Nm_isWithin
      simp (disch := omega) only [pl_0, pl_1, pl_2, pl_3, pl_4, pl_5, pl_6, pl_7, pl_8, pl_9, pl_10, pl_11, pl_12, pl_13, pl_14, pl_15, pl_16, pl_17, pl_18, pl_19, pl_20, pl_21, pl_30, pl_40, pl_50, pl_51, pl_60, pl_70, pl_71, pl_99, pl_100, pl_160, pl_240, pl_256, pl_300, pl_999, pl_1000, pl_1280, pl_9999, pl_10000, pu_neg, pu_nn, pu_le, pu_lt, pu_eq, pu_cl, pu_in, pu_g, ↓pu_let, ↓pu_bind, pu_m1, pu_add, pu_mul, Nat.not_lt_zero, if_false, if_true, Nat.zero_le, pu_d2, pu_d100, pu_em1, ↓reduceIte, Nat.reduceEqDiff, Nat.reduceLT, Nat.reduceLeDiff, Nat.reduceAdd, Nat.reduceMul, Nat.reduceSub, not_true_eq_false, not_false_eq_true, and_true, true_and, and_false, false_and, or_true, true_or, or_false, false_or, Nat.lt_irrefl, Nat.le_refl, Nat.add_zero, Bool.false_eq_true, ↓pu_gI, nd_le, nd_leT, nd_lt, nd_ltT, nd_eq, nd_eqT]
      by_cases a : n < 1
      · simp [a]
      · by_cases b : 40 < n <;> simp [a, b]
    by_cases r : n < 1 ∨ 40 < n
    · refine qno (b := -nI 6) 6 (by omega) (by omega) (fun σ h => ?_) (fun σ h => ?_)
      · have ki := kI σ
        rw [if_pos r] at ki
        rw [kA σ h, if_pos w]
        unfold Nm_who_j57
        rw [if_pos nI_0]
        exact (bn0 ki).trans (who_c _ _ _ (b := 6) (by omega) (by omega)).1
      · rw [kM σ h, if_pos w, if_pos r]
    · by_cases z : allF (setsB T E s) n = true
      · refine qeq (whoN T E s t n) (fun σ h => ?_) (fun σ h => ?_)
        · have ki := kI σ
          rw [if_neg r] at ki
          have ka := nm_areSets h hP hs w.1
          rw [if_pos z] at ka
          rw [kA σ h, if_pos w]
          unfold Nm_who_j57
          rw [if_pos nI_0]
          refine (bn1 ki).trans ((gin hs (by omega)).trans ?_)
          rw [sf_n (by omega)]
          refine (bn1 ka).trans ?_
          unfold Nm_who_j90
          rw [if_pos nI_0]
          refine (gin hs (by omega)).trans ((gin ht (by omega)).trans ?_)
          rw [sf_n (by omega), sf_n (by omega), nm_whoL h hP hs ht w.1 w.2]
          rfl
        · rw [kM σ h, if_pos w, if_neg r, md_whoC h hP hs w.1, if_pos z]
          exact md_whoL h hP hs ht w.1 w.2
      · refine qno (b := -nI 6) 6 (by omega) (by omega) (fun σ h => ?_) (fun σ h => ?_)
        · have ki := kI σ
          rw [if_neg r] at ki
          have ka := nm_areSets h hP hs w.1
          rw [if_neg z] at ka
          rw [kA σ h, if_pos w]
          unfold Nm_who_j57
          rw [if_pos nI_0]
          refine (bn1 ki).trans ((gin hs (by omega)).trans ?_)
          rw [sf_n (by omega)]
          exact (bn0 ka).trans (who_c _ _ _ (b := 6) (by omega) (by omega)).1
        · rw [kM σ h, if_pos w, if_neg r, md_whoC h hP hs w.1, if_neg z]
  · refine qno (b := -nI 5) 5 (by omega) (by omega) (fun σ h => ?_) (fun σ h => ?_)
    · rw [kA σ h, if_neg w]
    · rw [kM σ h, if_neg w]
end WHO
