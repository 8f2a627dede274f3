/-! tries: the calls -/
def wE (E : Nat → Nat → Int64) (s p : Nat) : Nat := un (eN E s p)
def suW (w : Nat → Nat) : Nat → Nat
  | 0 => 0
  | n + 1 => suW w n + w n
def wpN (w : Nat → Nat) (n p : Nat) : Nat := w p * plN w n p
theorem suW_le {w : Nat → Nat} {n : Nat} (h : ∀ p, p < n → w p ≤ 99) : ∀ m, m ≤ n → suW w m ≤ 99 * m := by
  intro m
  induction m with
  | zero => intro _; exact Nat.le_refl _
  | succ m ih =>
    intro hm
    have h1 := ih (by omega)
    have h2 := h m (by omega)
    show suW w m + w m ≤ _
    omega
theorem wp_le {w : Nat → Nat} {n p : Nat} (h : w p ≤ 99) (hp : p < n) (hn : n ≤ 8) : wpN w n p ≤ 792 := by
  have h1 := (pl_le (w := w) hp).2
  unfold wpN
  have := Nat.mul_le_mul h h1
  have h2 := Nat.mul_le_mul (Nat.le_refl 99) hn
  omega
theorem sm_le {f : Nat → Bool} {g : Nat → Nat} {n : Nat} (h : ∀ p, p < n → g p ≤ 792) : ∀ m, m ≤ n → smF f g m ≤ 792 * m := by
  intro m
  induction m with
  | zero => intro _; exact Nat.le_refl _
  | succ m ih =>
    intro hm
    have h1 := ih (by omega)
    have h2 := h m (by omega)
    cases e : f m with
    | true => rw [sm_t e]; omega
    | false => rw [sm_f e]; omega
section TRI
variable {σ : nm_St} {T U : is_T} {E : Nat → Nat → Int64}
theorem nm_allW (h : CF σ T U E) (hP : PF T U) {s n : Nat} (hs : s < 8) (hn : n ≤ U 2 s) (hw : ∀ p, p < n → wE E s p ≤ 99) : Nm_allWeights (54 + 2 * s) (nI n) σ = some (nI (suW (wE E s) n), σ) := by
  have hsz := (hP.2 s hs).1.2.2
  unfold Nm_allWeights
  simp only [pl_0, pl_1, pl_2, pl_3, pl_4, pl_5, pl_6, pl_7, pl_8, pl_9, pl_10, pl_11, pl_12, pl_13, pl_14, pl_15, pl_16, pl_17, pl_18, pl_19, pl_20, pl_21, pl_30, pl_40, pl_50, pl_51, pl_60, pl_70, pl_71, pl_99, pl_100, pl_160, pl_240, pl_256, pl_300, pl_999, pl_1000, pl_1280, pl_9999, pl_10000]
  refine lp_Q (fun n' i (_ : Unit) => Nm_allWeights_l4 (54 + 2 * s) _ n' (nI n) (nI (suW (wE E s) i)) (nI i) σ) n (fun i _ => True) (fun r => r = some (nI (suW (wE E s) n), σ)) ?_ ?_ 400 0 () (by omega) trivial (by omega)
  · intro n' i _ hi _ ih
    have hs2 := ih () trivial
    have kN := sh_num h hP hs (show i < U 2 s by omega)
    rw [rg_t (eN E s i)] at kN
    rw [show suW (wE E s) (i + 1) = suW (wE E s) i + un (eN E s i) from rfl] at hs2
    have h1 := suW_le hw i (by omega)
    have h2 : un (eN E s i) ≤ 99 := hw i hi
    simp (disch := omega) only [Nm_allWeights_l4, pl_0, pl_1, pl_2, pl_3, pl_4, pl_5, pl_6, pl_7, pl_8, pl_9, pl_10, pl_11, pl_12, pl_13, pl_14, pl_15, pl_16, pl_17, pl_18, pl_19, pl_20, pl_21, pl_30, pl_40, pl_50, pl_51, pl_60, pl_70, pl_71, pl_99, pl_100, pl_160, pl_240, pl_256, pl_300, pl_999, pl_1000, pl_1280, pl_9999, pl_10000, pu_neg, pu_nn, pu_le, pu_lt, pu_eq, pu_cl, pu_in, pu_g, ↓pu_let, ↓pu_bind, pu_m1, pu_add, pu_mul, Nat.not_lt_zero, if_false, if_true, Nat.zero_le, pu_d2, pu_d100, pu_em1, ↓reduceIte, Nat.reduceEqDiff, Nat.reduceLT, Nat.reduceLeDiff, Nat.reduceAdd, Nat.reduceMul, Nat.reduceSub, not_true_eq_false, not_false_eq_true, and_true, true_and, and_false, false_and, or_true, true_or, or_false, false_or, Nat.lt_irrefl, Nat.le_refl, Nat.add_zero, Bool.false_eq_true, ↓pu_gI, nd_le, nd_leT, nd_lt, nd_ltT, nd_eq, nd_eqT, kN]
    exact hs2
  · intro n' _ _
    simp (disch := omega) only [Nm_allWeights_l4, pl_0, pl_1, pl_2, pl_3, pl_4, pl_5, pl_6, pl_7, pl_8, pl_9, pl_10, pl_11, pl_12, pl_13, pl_14, pl_15, pl_16, pl_17, pl_18, pl_19, pl_20, pl_21, pl_30, pl_40, pl_50, pl_51, pl_60, pl_70, pl_71, pl_99, pl_100, pl_160, pl_240, pl_256, pl_300, pl_999, pl_1000, pl_1280, pl_9999, pl_10000, pu_neg, pu_nn, pu_le, pu_lt, pu_eq, pu_cl, pu_in, pu_g, ↓pu_let, ↓pu_bind, pu_m1, pu_add, pu_mul, Nat.not_lt_zero, if_false, if_true, Nat.zero_le, pu_d2, pu_d100, pu_em1, ↓reduceIte, Nat.reduceEqDiff, Nat.reduceLT, Nat.reduceLeDiff, Nat.reduceAdd, Nat.reduceMul, Nat.reduceSub, not_true_eq_false, not_false_eq_true, and_true, true_and, and_false, false_and, or_true, true_or, or_false, false_or, Nat.lt_irrefl, Nat.le_refl, Nat.add_zero, Bool.false_eq_true, ↓pu_gI, nd_le, nd_leT, nd_lt, nd_ltT, nd_eq, nd_eqT]
theorem nm_place (h : CF σ T U E) (hP : PF T U) {s n p : Nat} (hs : s < 8) (hn : n ≤ U 2 s) (hn8 : n ≤ 8) (hp : p < n) (hw : ∀ p, p < n → wE E s p ≤ 99) : Nm_placeOf (54 + 2 * s) (nI n) (nI p) σ = some (nI (plN (wE E s) n p), σ) := by
  have kP := sh_num h hP hs (show p < U 2 s by omega)
  rw [rg_t (eN E s p)] at kP
  unfold Nm_placeOf
  rw [kP]
  simp only [pl_0, pl_1, pl_2, pl_3, pl_4, pl_5, pl_6, pl_7, pl_8, pl_9, pl_10, pl_11, pl_12, pl_13, pl_14, pl_15, pl_16, pl_17, pl_18, pl_19, pl_20, pl_21, pl_30, pl_40, pl_50, pl_51, pl_60, pl_70, pl_71, pl_99, pl_100, pl_160, pl_240, pl_256, pl_300, pl_999, pl_1000, pl_1280, pl_9999, pl_10000, pu_bind]
  have hwp : un (eN E s p) ≤ 99 := hw p hp
  refine lp_Q (fun n' i (_ : Unit) => Nm_placeOf_l12 (54 + 2 * s) _ n' (nI n) (nI p) (nI (1 + cntB (fun q => befB (wE E s) q p) i)) (nI (un (eN E s p))) (nI i) σ) n (fun i _ => True) (fun r => r = some (nI (plN (wE E s) n p), σ)) ?_ ?_ 400 0 () (by omega) trivial (by omega)
  · intro n' i _ hi _ ih
    have hs2 := ih () trivial
    have kN := sh_num h hP hs (show i < U 2 s by omega)
    rw [rg_t (eN E s i)] at kN
    have hwi : un (eN E s i) ≤ 99 := hw i hi
    have hc := cntB_le (fun q => befB (wE E s) q p) i
    cases e : befB (wE E s) i p with
    | true =>
      rw [cnt_t (f := fun q => befB (wE E s) q p) e, ← Nat.add_assoc] at hs2
      have e' : un (eN E s p) < un (eN E s i) ∨ (un (eN E s i) = un (eN E s p) ∧ i < p) := bef_iff.mp e
      by_cases z : un (eN E s p) < un (eN E s i)
      · simp (disch := omega) only [Nm_placeOf_l12, pl_0, pl_1, pl_2, pl_3, pl_4, pl_5, pl_6, pl_7, pl_8, pl_9, pl_10, pl_11, pl_12, pl_13, pl_14, pl_15, pl_16, pl_17, pl_18, pl_19, pl_20, pl_21, pl_30, pl_40, pl_50, pl_51, pl_60, pl_70, pl_71, pl_99, pl_100, pl_160, pl_240, pl_256, pl_300, pl_999, pl_1000, pl_1280, pl_9999, pl_10000, pu_neg, pu_nn, pu_le, pu_lt, pu_eq, pu_cl, pu_in, pu_g, ↓pu_let, ↓pu_bind, pu_m1, pu_add, pu_mul, Nat.not_lt_zero, if_false, if_true, Nat.zero_le, pu_d2, pu_d100, pu_em1, ↓reduceIte, Nat.reduceEqDiff, Nat.reduceLT, Nat.reduceLeDiff, Nat.reduceAdd, Nat.reduceMul, Nat.reduceSub, not_true_eq_false, not_false_eq_true, and_true, true_and, and_false, false_and, or_true, true_or, or_false, false_or, Nat.lt_irrefl, Nat.le_refl, Nat.add_zero, Bool.false_eq_true, ↓pu_gI, nd_le, nd_leT, nd_lt, nd_ltT, nd_eq, nd_eqT, kN]
        exact hs2
      · have z2 := e'.resolve_left z
        simp (disch := omega) only [Nm_placeOf_l12, pl_0, pl_1, pl_2, pl_3, pl_4, pl_5, pl_6, pl_7, pl_8, pl_9, pl_10, pl_11, pl_12, pl_13, pl_14, pl_15, pl_16, pl_17, pl_18, pl_19, pl_20, pl_21, pl_30, pl_40, pl_50, pl_51, pl_60, pl_70, pl_71, pl_99, pl_100, pl_160, pl_240, pl_256, pl_300, pl_999, pl_1000, pl_1280, pl_9999, pl_10000, pu_neg, pu_nn, pu_le, pu_lt, pu_eq, pu_cl, pu_in, pu_g, ↓pu_let, ↓pu_bind, pu_m1, pu_add, pu_mul, Nat.not_lt_zero, if_false, if_true, Nat.zero_le, pu_d2, pu_d100, pu_em1, ↓reduceIte, Nat.reduceEqDiff, Nat.reduceLT, Nat.reduceLeDiff, Nat.reduceAdd, Nat.reduceMul, Nat.reduceSub, not_true_eq_false, not_false_eq_true, and_true, true_and, and_false, false_and, or_true, true_or, or_false, false_or, Nat.lt_irrefl, Nat.le_refl, Nat.add_zero, Bool.false_eq_true, ↓pu_gI, nd_le, nd_leT, nd_lt, nd_ltT, nd_eq, nd_eqT, kN]
        exact hs2
    | false =>
      rw [cnt_f (f := fun q => befB (wE E s) q p) e] at hs2
      have e' : ¬ (un (eN E s p) < un (eN E s i) ∨ (un (eN E s i) = un (eN E s p) ∧ i < p)) := bef_f.mp e
      by_cases z : un (eN E s i) = un (eN E s p)
      · simp (disch := omega) only [Nm_placeOf_l12, pl_0, pl_1, pl_2, pl_3, pl_4, pl_5, pl_6, pl_7, pl_8, pl_9, pl_10, pl_11, pl_12, pl_13, pl_14, pl_15, pl_16, pl_17, pl_18, pl_19, pl_20, pl_21, pl_30, pl_40, pl_50, pl_51, pl_60, pl_70, pl_71, pl_99, pl_100, pl_160, pl_240, pl_256, pl_300, pl_999, pl_1000, pl_1280, pl_9999, pl_10000, pu_neg, pu_nn, pu_le, pu_lt, pu_eq, pu_cl, pu_in, pu_g, ↓pu_let, ↓pu_bind, pu_m1, pu_add, pu_mul, Nat.not_lt_zero, if_false, if_true, Nat.zero_le, pu_d2, pu_d100, pu_em1, ↓reduceIte, Nat.reduceEqDiff, Nat.reduceLT, Nat.reduceLeDiff, Nat.reduceAdd, Nat.reduceMul, Nat.reduceSub, not_true_eq_false, not_false_eq_true, and_true, true_and, and_false, false_and, or_true, true_or, or_false, false_or, Nat.lt_irrefl, Nat.le_refl, Nat.add_zero, Bool.false_eq_true, ↓pu_gI, nd_le, nd_leT, nd_lt, nd_ltT, nd_eq, nd_eqT, kN]
        exact hs2
      · simp (disch := omega) only [Nm_placeOf_l12, pl_0, pl_1, pl_2, pl_3, pl_4, pl_5, pl_6, pl_7, pl_8, pl_9, pl_10, pl_11, pl_12, pl_13, pl_14, pl_15, pl_16, pl_17, pl_18, pl_19, pl_20, pl_21, pl_30, pl_40, pl_50, pl_51, pl_60, pl_70, pl_71, pl_99, pl_100, pl_160, pl_240, pl_256, pl_300, pl_999, pl_1000, pl_1280, pl_9999, pl_10000, pu_neg, pu_nn, pu_le, pu_lt, pu_eq, pu_cl, pu_in, pu_g, ↓pu_let, ↓pu_bind, pu_m1, pu_add, pu_mul, Nat.not_lt_zero, if_false, if_true, Nat.zero_le, pu_d2, pu_d100, pu_em1, ↓reduceIte, Nat.reduceEqDiff, Nat.reduceLT, Nat.reduceLeDiff, Nat.reduceAdd, Nat.reduceMul, Nat.reduceSub, not_true_eq_false, not_false_eq_true, and_true, true_and, and_false, false_and, or_true, true_or, or_false, false_or, Nat.lt_irrefl, Nat.le_refl, Nat.add_zero, Bool.false_eq_true, ↓pu_gI, nd_le, nd_leT, nd_lt, nd_ltT, nd_eq, nd_eqT, kN]
        exact hs2
  · intro n' _ _
    simp (disch := omega) only [Nm_placeOf_l12, pl_0, pl_1, pl_2, pl_3, pl_4, pl_5, pl_6, pl_7, pl_8, pl_9, pl_10, pl_11, pl_12, pl_13, pl_14, pl_15, pl_16, pl_17, pl_18, pl_19, pl_20, pl_21, pl_30, pl_40, pl_50, pl_51, pl_60, pl_70, pl_71, pl_99, pl_100, pl_160, pl_240, pl_256, pl_300, pl_999, pl_1000, pl_1280, pl_9999, pl_10000, pu_neg, pu_nn, pu_le, pu_lt, pu_eq, pu_cl, pu_in, pu_g, ↓pu_let, ↓pu_bind, pu_m1, pu_add, pu_mul, Nat.not_lt_zero, if_false, if_true, Nat.zero_le, pu_d2, pu_d100, pu_em1, ↓reduceIte, Nat.reduceEqDiff, Nat.reduceLT, Nat.reduceLeDiff, Nat.reduceAdd, Nat.reduceMul, Nat.reduceSub, not_true_eq_false, not_false_eq_true, and_true, true_and, and_false, false_and, or_true, true_or, or_false, false_or, Nat.lt_irrefl, Nat.le_refl, Nat.add_zero, Bool.false_eq_true, ↓pu_gI, nd_le, nd_leT, nd_lt, nd_ltT, nd_eq, nd_eqT]
    rfl
theorem nm_mean (h : CF σ T U E) (hP : PF T U) {s n : Nat} (hs : s < 8) (hn : n ≤ U 2 s) (hn8 : n ≤ 8) (hw : ∀ p, p < n → wE E s p ≤ 99) (h0 : suW (wE E s) n ≠ 0) : Nm_triesOnTheMean (54 + 2 * s) (nI n) σ = some (nI (smF (fun _ => true) (wpN (wE E s) n) n * 1000 / suW (wE E s) n), σ) := by
  have hwp : ∀ p, p < n → wpN (wE E s) n p ≤ 792 := fun p hp => wp_le (hw p hp) hp hn8
  have hsu := suW_le hw n (Nat.le_refl _)
  unfold Nm_triesOnTheMean
  simp only [pl_0, pl_1, pl_2, pl_3, pl_4, pl_5, pl_6, pl_7, pl_8, pl_9, pl_10, pl_11, pl_12, pl_13, pl_14, pl_15, pl_16, pl_17, pl_18, pl_19, pl_20, pl_21, pl_30, pl_40, pl_50, pl_51, pl_60, pl_70, pl_71, pl_99, pl_100, pl_160, pl_240, pl_256, pl_300, pl_999, pl_1000, pl_1280, pl_9999, pl_10000]
  refine lp_Q (fun n' i (_ : Unit) => Nm_triesOnTheMean_l4 (54 + 2 * s) _ n' (nI n) (nI (smF (fun _ => true) (wpN (wE E s) n) i)) (nI i) σ) n (fun i _ => True) (fun r => r = some (nI (smF (fun _ => true) (wpN (wE E s) n) n * 1000 / suW (wE E s) n), σ)) ?_ ?_ 400 0 () (by omega) trivial (by omega)
  · intro n' i _ hi _ ih
    have hs2 := ih () trivial
    have kN := sh_num h hP hs (show i < U 2 s by omega)
    rw [rg_t (eN E s i)] at kN
    have kP := nm_place h hP hs hn hn8 hi hw
    rw [sm_t rfl, show wpN (wE E s) n i = un (eN E s i) * plN (wE E s) n i from rfl] at hs2
    simp (disch := omega) only [Nm_triesOnTheMean_l4, pl_0, pl_1, pl_2, pl_3, pl_4, pl_5, pl_6, pl_7, pl_8, pl_9, pl_10, pl_11, pl_12, pl_13, pl_14, pl_15, pl_16, pl_17, pl_18, pl_19, pl_20, pl_21, pl_30, pl_40, pl_50, pl_51, pl_60, pl_70, pl_71, pl_99, pl_100, pl_160, pl_240, pl_256, pl_300, pl_999, pl_1000, pl_1280, pl_9999, pl_10000, pu_neg, pu_nn, pu_le, pu_lt, pu_eq, pu_cl, pu_in, pu_g, ↓pu_let, ↓pu_bind, pu_m1, pu_add, pu_mul, Nat.not_lt_zero, if_false, if_true, Nat.zero_le, pu_d2, pu_d100, pu_em1, ↓reduceIte, Nat.reduceEqDiff, Nat.reduceLT, Nat.reduceLeDiff, Nat.reduceAdd, Nat.reduceMul, Nat.reduceSub, not_true_eq_false, not_false_eq_true, and_true, true_and, and_false, false_and, or_true, true_or, or_false, false_or, Nat.lt_irrefl, Nat.le_refl, Nat.add_zero, Bool.false_eq_true, ↓pu_gI, nd_le, nd_leT, nd_lt, nd_ltT, nd_eq, nd_eqT, kN, kP]
    exact hs2
  · intro n' _ _
    have hsm := sm_le (f := fun _ => true) hwp n (Nat.le_refl _)
    have ka := nm_allW h hP hs hn hw
    simp (disch := omega) only [Nm_triesOnTheMean_l4, pl_0, pl_1, pl_2, pl_3, pl_4, pl_5, pl_6, pl_7, pl_8, pl_9, pl_10, pl_11, pl_12, pl_13, pl_14, pl_15, pl_16, pl_17, pl_18, pl_19, pl_20, pl_21, pl_30, pl_40, pl_50, pl_51, pl_60, pl_70, pl_71, pl_99, pl_100, pl_160, pl_240, pl_256, pl_300, pl_999, pl_1000, pl_1280, pl_9999, pl_10000, pu_neg, pu_nn, pu_le, pu_lt, pu_eq, pu_cl, pu_in, pu_g, ↓pu_let, ↓pu_bind, pu_m1, pu_add, pu_mul, Nat.not_lt_zero, if_false, if_true, Nat.zero_le, pu_d2, pu_d100, pu_em1, ↓reduceIte, Nat.reduceEqDiff, Nat.reduceLT, Nat.reduceLeDiff, Nat.reduceAdd, Nat.reduceMul, Nat.reduceSub, not_true_eq_false, not_false_eq_true, and_true, true_and, and_false, false_and, or_true, true_or, or_false, false_or, Nat.lt_irrefl, Nat.le_refl, Nat.add_zero, Bool.false_eq_true, ↓pu_gI, nd_le, nd_leT, nd_lt, nd_ltT, nd_eq, nd_eqT, ka, decide_false, Bool.not_false, pk_div]
theorem nm_triedAt (h : CF σ T U E) (hP : PF T U) {s n i t : Nat} (hs : s < 8) (hn : n ≤ U 2 s) (hn8 : n ≤ 8) (hi : i < n) (ht : t < n) (htp : plN (wE E s) n t = i + 1) (hw : ∀ p, p < n → wE E s p ≤ 99) : Nm_triedAt (54 + 2 * s) (nI n) (nI i) σ = some (nI t, σ) := by
  unfold Nm_triedAt
  simp only [pl_0, pl_1, pl_2, pl_3, pl_4, pl_5, pl_6, pl_7, pl_8, pl_9, pl_10, pl_11, pl_12, pl_13, pl_14, pl_15, pl_16, pl_17, pl_18, pl_19, pl_20, pl_21, pl_30, pl_40, pl_50, pl_51, pl_60, pl_70, pl_71, pl_99, pl_100, pl_160, pl_240, pl_256, pl_300, pl_999, pl_1000, pl_1280, pl_9999, pl_10000]
  refine lp_Q (fun n' p (_ : Unit) => Nm_triedAt_l2 (54 + 2 * s) _ n' (nI n) (nI i) (nI p) σ) n (fun p _ => p ≤ t) (fun r => r = some (nI t, σ)) ?_ ?_ 400 0 () (by omega) (Nat.zero_le _) (by omega)
  · intro n' p _ hp hpt ih
    have kP := nm_place h hP hs hn hn8 hp hw
    have hpl := (pl_le (w := wE E s) hp).2
    by_cases z : plN (wE E s) n p = i + 1
    · have : p = t := pl_inj hp ht (z.trans htp.symm)
      subst this
      simp (disch := omega) only [Nm_triedAt_l2, pl_0, pl_1, pl_2, pl_3, pl_4, pl_5, pl_6, pl_7, pl_8, pl_9, pl_10, pl_11, pl_12, pl_13, pl_14, pl_15, pl_16, pl_17, pl_18, pl_19, pl_20, pl_21, pl_30, pl_40, pl_50, pl_51, pl_60, pl_70, pl_71, pl_99, pl_100, pl_160, pl_240, pl_256, pl_300, pl_999, pl_1000, pl_1280, pl_9999, pl_10000, pu_neg, pu_nn, pu_le, pu_lt, pu_eq, pu_cl, pu_in, pu_g, ↓pu_let, ↓pu_bind, pu_m1, pu_add, pu_mul, Nat.not_lt_zero, if_false, if_true, Nat.zero_le, pu_d2, pu_d100, pu_em1, ↓reduceIte, Nat.reduceEqDiff, Nat.reduceLT, Nat.reduceLeDiff, Nat.reduceAdd, Nat.reduceMul, Nat.reduceSub, not_true_eq_false, not_false_eq_true, and_true, true_and, and_false, false_and, or_true, true_or, or_false, false_or, Nat.lt_irrefl, Nat.le_refl, Nat.add_zero, Bool.false_eq_true, ↓pu_gI, nd_le, nd_leT, nd_lt, nd_ltT, nd_eq, nd_eqT, kP]
    · have hne : p ≠ t := fun q => z (q ▸ htp)
      have hs2 := ih () (by omega)
      simp (disch := omega) only [Nm_triedAt_l2, pl_0, pl_1, pl_2, pl_3, pl_4, pl_5, pl_6, pl_7, pl_8, pl_9, pl_10, pl_11, pl_12, pl_13, pl_14, pl_15, pl_16, pl_17, pl_18, pl_19, pl_20, pl_21, pl_30, pl_40, pl_50, pl_51, pl_60, pl_70, pl_71, pl_99, pl_100, pl_160, pl_240, pl_256, pl_300, pl_999, pl_1000, pl_1280, pl_9999, pl_10000, pu_neg, pu_nn, pu_le, pu_lt, pu_eq, pu_cl, pu_in, pu_g, ↓pu_let, ↓pu_bind, pu_m1, pu_add, pu_mul, Nat.not_lt_zero, if_false, if_true, Nat.zero_le, pu_d2, pu_d100, pu_em1, ↓reduceIte, Nat.reduceEqDiff, Nat.reduceLT, Nat.reduceLeDiff, Nat.reduceAdd, Nat.reduceMul, Nat.reduceSub, not_true_eq_false, not_false_eq_true, and_true, true_and, and_false, false_and, or_true, true_or, or_false, false_or, Nat.lt_irrefl, Nat.le_refl, Nat.add_zero, Bool.false_eq_true, ↓pu_gI, nd_le, nd_leT, nd_lt, nd_ltT, nd_eq, nd_eqT, kP]
      exact hs2
  · intro n' _ hpt
    omega
theorem md_next (h : MF σ T U E) (hP : PF T U) {s : Nat} (hs : s < 8) (hn : T 0 7 ≤ U 2 s) (hw : ∀ p, p < T 0 7 → wE E s p ≤ 99) {met : Nat → Bool} (K : Int32 → Int32 → Int32 → Int32 → Int32 → Int32 → Int32 → Int32 → nm_St → Option (Int32 × nm_St)) (x2 x4 x6 x7 x8 : Int32) : Md_tries_l153 K 400 (nI s) x2 x4 (nI (bts met (T 0 7))) x6 x7 x8 (-nI 1) (nI 0) σ = K (nI s) x2 x4 (nI (bts met (T 0 7))) x6 x7 x8 (nI (nxS (wE E s) met (T 0 7)) - nI 1) σ := by
  have hI := hP.1
  have hp := hI.2.1
  have hb := bts_lt met (T 0 7)
  have h2p := pu_p2 hp.2
  rw [← pu_01]
  refine lp_Q (fun n' p (_ : Unit) => Md_tries_l153 K n' (nI s) x2 x4 (nI (bts met (T 0 7))) x6 x7 x8 (nI (nxS (wE E s) met p) - nI 1) (nI p) σ) (T 0 7) (fun p _ => nxS (wE E s) met p ≤ p) (fun r => r = K (nI s) x2 x4 (nI (bts met (T 0 7))) x6 x7 x8 (nI (nxS (wE E s) met (T 0 7)) - nI 1) σ) ?_ ?_ 400 0 () (by omega) (Nat.le_refl _) (by omega)
  · intro n' p _ hpn hle ih
    have kh := md_has (σ := σ) (a := bts met (T 0 7)) (m := p) (by omega) (by omega)
    rw [bts_tb] at kh
    simp only [hpn, decide_true, Bool.true_and] at kh
    have kN := md_int h hP hs (show p < U 2 s by omega)
    rw [rg_t (eN E s p)] at kN
    have hwp : un (eN E s p) ≤ 99 := hw p hpn
    have ex : nxS (wE E s) met (p + 1) = nxG (wE E s) met p (nxS (wE E s) met p) := rfl
    rw [ex] at ih
    generalize nxS (wE E s) met p = b at *
    cases e : met p with
    | true =>
      rw [e] at kh
      rw [nxG_f (by rw [e]; rfl)] at ih
      have hs2 := ih () (by omega)
      simp (disch := omega) only [Md_tries_l153, pl_0, pl_1, pl_2, pl_3, pl_4, pl_5, pl_6, pl_7, pl_8, pl_9, pl_10, pl_11, pl_12, pl_13, pl_14, pl_15, pl_16, pl_17, pl_18, pl_19, pl_20, pl_21, pl_30, pl_40, pl_50, pl_51, pl_60, pl_70, pl_71, pl_99, pl_100, pl_160, pl_240, pl_256, pl_300, pl_999, pl_1000, pl_1280, pl_9999, pl_10000, pu_neg, pu_nn, pu_le, pu_lt, pu_eq, pu_cl, pu_in, pu_g, ↓pu_let, ↓pu_bind, pu_m1, pu_add, pu_mul, Nat.not_lt_zero, if_false, if_true, Nat.zero_le, pu_d2, pu_d100, pu_em1, ↓reduceIte, Nat.reduceEqDiff, Nat.reduceLT, Nat.reduceLeDiff, Nat.reduceAdd, Nat.reduceMul, Nat.reduceSub, not_true_eq_false, not_false_eq_true, and_true, true_and, and_false, false_and, or_true, true_or, or_false, false_or, Nat.lt_irrefl, Nat.le_refl, Nat.add_zero, Bool.false_eq_true, ↓pu_gI, nd_le, nd_leT, nd_lt, nd_ltT, nd_eq, nd_eqT, h.1.p, kh]
      exact hs2
    | false =>
      rw [e] at kh
      by_cases b0 : b = 0
      · subst b0
        rw [nxG_t (by rw [e]; rfl)] at ih
        have hs2 := ih () (by omega)
        simp only [pu_pred] at hs2
        rw [pu_01]
        simp (disch := omega) only [Md_tries_l153, pl_0, pl_1, pl_2, pl_3, pl_4, pl_5, pl_6, pl_7, pl_8, pl_9, pl_10, pl_11, pl_12, pl_13, pl_14, pl_15, pl_16, pl_17, pl_18, pl_19, pl_20, pl_21, pl_30, pl_40, pl_50, pl_51, pl_60, pl_70, pl_71, pl_99, pl_100, pl_160, pl_240, pl_256, pl_300, pl_999, pl_1000, pl_1280, pl_9999, pl_10000, pu_neg, pu_nn, pu_le, pu_lt, pu_eq, pu_cl, pu_in, pu_g, ↓pu_let, ↓pu_bind, pu_m1, pu_add, pu_mul, Nat.not_lt_zero, if_false, if_true, Nat.zero_le, pu_d2, pu_d100, pu_em1, ↓reduceIte, Nat.reduceEqDiff, Nat.reduceLT, Nat.reduceLeDiff, Nat.reduceAdd, Nat.reduceMul, Nat.reduceSub, not_true_eq_false, not_false_eq_true, and_true, true_and, and_false, false_and, or_true, true_or, or_false, false_or, Nat.lt_irrefl, Nat.le_refl, Nat.add_zero, Bool.false_eq_true, ↓pu_gI, nd_le, nd_leT, nd_lt, nd_ltT, nd_eq, nd_eqT, h.1.p, kh]
        exact hs2
      · obtain ⟨t, rfl⟩ : ∃ t, b = t + 1 := ⟨b - 1, by omega⟩
        have kT := md_int h hP hs (show t < U 2 s by omega)
        rw [rg_t (eN E s t)] at kT
        have hwt : un (eN E s t) ≤ 99 := hw t (by omega)
        rw [pu_pred]
        by_cases z : wE E s t < wE E s p
        · have z' : un (eN E s t) < un (eN E s p) := z
          rw [nxG_t (by rw [e, Nat.add_sub_cancel, decide_eq_true z, Bool.or_true]; rfl)] at ih
          have hs2 := ih () (by omega)
          simp only [pu_pred] at hs2
          simp (disch := omega) only [Md_tries_l153, pl_0, pl_1, pl_2, pl_3, pl_4, pl_5, pl_6, pl_7, pl_8, pl_9, pl_10, pl_11, pl_12, pl_13, pl_14, pl_15, pl_16, pl_17, pl_18, pl_19, pl_20, pl_21, pl_30, pl_40, pl_50, pl_51, pl_60, pl_70, pl_71, pl_99, pl_100, pl_160, pl_240, pl_256, pl_300, pl_999, pl_1000, pl_1280, pl_9999, pl_10000, pu_neg, pu_nn, pu_le, pu_lt, pu_eq, pu_cl, pu_in, pu_g, ↓pu_let, ↓pu_bind, pu_m1, pu_add, pu_mul, Nat.not_lt_zero, if_false, if_true, Nat.zero_le, pu_d2, pu_d100, pu_em1, ↓reduceIte, Nat.reduceEqDiff, Nat.reduceLT, Nat.reduceLeDiff, Nat.reduceAdd, Nat.reduceMul, Nat.reduceSub, not_true_eq_false, not_false_eq_true, and_true, true_and, and_false, false_and, or_true, true_or, or_false, false_or, Nat.lt_irrefl, Nat.le_refl, Nat.add_zero, Bool.false_eq_true, ↓pu_gI, nd_le, nd_leT, nd_lt, nd_ltT, nd_eq, nd_eqT, h.1.p, kh, kN, kT]
          exact hs2
        · have z' : ¬ un (eN E s t) < un (eN E s p) := z
          rw [nxG_f (by rw [e, Nat.add_sub_cancel, decide_eq_false z, decide_eq_false (by omega)]; rfl)] at ih
          have hs2 := ih () (by omega)
          simp only [pu_pred] at hs2
          simp (disch := omega) only [Md_tries_l153, pl_0, pl_1, pl_2, pl_3, pl_4, pl_5, pl_6, pl_7, pl_8, pl_9, pl_10, pl_11, pl_12, pl_13, pl_14, pl_15, pl_16, pl_17, pl_18, pl_19, pl_20, pl_21, pl_30, pl_40, pl_50, pl_51, pl_60, pl_70, pl_71, pl_99, pl_100, pl_160, pl_240, pl_256, pl_300, pl_999, pl_1000, pl_1280, pl_9999, pl_10000, pu_neg, pu_nn, pu_le, pu_lt, pu_eq, pu_cl, pu_in, pu_g, ↓pu_let, ↓pu_bind, pu_m1, pu_add, pu_mul, Nat.not_lt_zero, if_false, if_true, Nat.zero_le, pu_d2, pu_d100, pu_em1, ↓reduceIte, Nat.reduceEqDiff, Nat.reduceLT, Nat.reduceLeDiff, Nat.reduceAdd, Nat.reduceMul, Nat.reduceSub, not_true_eq_false, not_false_eq_true, and_true, true_and, and_false, false_and, or_true, true_or, or_false, false_or, Nat.lt_irrefl, Nat.le_refl, Nat.add_zero, Bool.false_eq_true, ↓pu_gI, nd_le, nd_leT, nd_lt, nd_ltT, nd_eq, nd_eqT, h.1.p, kh, kN, kT]
          exact hs2
  · intro n' _ _
    simp (disch := omega) only [Md_tries_l153, pl_0, pl_1, pl_2, pl_3, pl_4, pl_5, pl_6, pl_7, pl_8, pl_9, pl_10, pl_11, pl_12, pl_13, pl_14, pl_15, pl_16, pl_17, pl_18, pl_19, pl_20, pl_21, pl_30, pl_40, pl_50, pl_51, pl_60, pl_70, pl_71, pl_99, pl_100, pl_160, pl_240, pl_256, pl_300, pl_999, pl_1000, pl_1280, pl_9999, pl_10000, pu_neg, pu_nn, pu_le, pu_lt, pu_eq, pu_cl, pu_in, pu_g, ↓pu_let, ↓pu_bind, pu_m1, pu_add, pu_mul, Nat.not_lt_zero, if_false, if_true, Nat.zero_le, pu_d2, pu_d100, pu_em1, ↓reduceIte, Nat.reduceEqDiff, Nat.reduceLT, Nat.reduceLeDiff, Nat.reduceAdd, Nat.reduceMul, Nat.reduceSub, not_true_eq_false, not_false_eq_true, and_true, true_and, and_false, false_and, or_true, true_or, or_false, false_or, Nat.lt_irrefl, Nat.le_refl, Nat.add_zero, Bool.false_eq_true, ↓pu_gI, nd_le, nd_leT, nd_lt, nd_ltT, nd_eq, nd_eqT, h.1.p]
/-- the model's main loop: x2 which is asked for (-1: the mean) -/
theorem md_order (h : MF σ T U E) (hP : PF T U) {s : Nat} (hs : s < 8) (hn : T 0 7 ≤ U 2 s) (hw : ∀ p, p < T 0 7 → wE E s p ≤ 99) (K : Int32 → Int32 → Int32 → Int32 → nm_St → Option (Int32 × nm_St)) (x2 x4 : Int32) (Q : Option (Int32 × nm_St) → Prop) (hK : ∀ y, (∀ i t, i < T 0 7 → x2 = nI i → t < T 0 7 → plN (wE E s) (T 0 7) t = i + 1 → y = nI t) → Q (K x2 x4 (nI (smF (fun _ => true) (wpN (wE E s) (T 0 7)) (T 0 7))) y σ)) : Q (Md_tries_l138 K 400 (nI s) x2 x4 (nI 0) (nI 0) (-nI 1) (nI 0) σ) := by
  have hI := hP.1
  have hp := hI.2.1
  have hwp : ∀ p, p < T 0 7 → wpN (wE E s) (T 0 7) p ≤ 792 := fun p hpn => wp_le (hw p hpn) hpn hp.2
  have m0 : bts (metB (wE E s) (T 0 7) 0) (T 0 7) = 0 ∧ smF (metB (wE E s) (T 0 7) 0) (wpN (wE E s) (T 0 7)) (T 0 7) = 0 := by
    have hf : ∀ i, metB (wE E s) (T 0 7) 0 i = false := fun i => by
      unfold metB plN
      simp
    refine ⟨?_, ?_⟩
    · have : ∀ m, bts (metB (wE E s) (T 0 7) 0) m = 0 := by
        intro m
        induction m with
        | zero => rfl
        | succ m ih => rw [bts_f (hf m)]; exact ih
      exact this _
    · have : ∀ m, smF (metB (wE E s) (T 0 7) 0) (wpN (wE E s) (T 0 7)) m = 0 := by
        intro m
        induction m with
        | zero => rfl
        | succ m ih => rw [sm_f (hf m)]; exact ih
      exact this _
  have sel := sel (w := wE E s) (n := T 0 7)
  refine lp_Q (fun n' k (ab : Nat × Nat × Int32) => Md_tries_l138 K n' (nI s) x2 x4 (nI ab.1) (nI ab.2.1) ab.2.2 (nI k) σ) (T 0 7) (fun k ab => ab.1 = bts (metB (wE E s) (T 0 7) k) (T 0 7) ∧ ab.2.1 = smF (metB (wE E s) (T 0 7) k) (wpN (wE E s) (T 0 7)) (T 0 7) ∧ ∀ i t, i < k → x2 = nI i → t < T 0 7 → plN (wE E s) (T 0 7) t = i + 1 → ab.2.2 = nI t) Q ?_ ?_ 400 0 (0, 0, -nI 1) (by omega) ⟨m0.1.symm, m0.2.symm, fun i t hi => by omega⟩ (by omega)
  · intro n' k ab hk hab ih
    obtain ⟨b1, b2, y⟩ := ab
    obtain ⟨a1, a2, a3⟩ := hab
    simp only at a1 a2 a3
    subst a1 a2
    obtain ⟨t, t1, t2, t3⟩ := (sel k (by omega)).2 hk
    have kN := md_int h hP hs (show t < U 2 s by omega)
    rw [rg_t (eN E s t)] at kN
    have hwt : un (eN E s t) ≤ 99 := hw t t1
    have hb := bts_lt (metB (wE E s) (T 0 7) k) (T 0 7)
    have hsm := sm_le (f := metB (wE E s) (T 0 7) k) hwp (T 0 7) (Nat.le_refl _)
    have e1 := bts_succ_met hp.2 t1 t3
    have e2 := sm_succ (wpN (wE E s) (T 0 7)) t1 t3
    rw [show wpN (wE E s) (T 0 7) t = un (eN E s t) * plN (wE E s) (T 0 7) t from rfl, t3, Nat.mul_comm] at e2
    have nxt : ∀ y', (∀ i t, i < k + 1 → x2 = nI i → t < T 0 7 → plN (wE E s) (T 0 7) t = i + 1 → y' = nI t) → Q (Md_tries_l138 K n' (nI s) x2 x4 (nI (bts (metB (wE E s) (T 0 7) (k + 1)) (T 0 7))) (nI (smF (metB (wE E s) (T 0 7) (k + 1)) (wpN (wE E s) (T 0 7)) (T 0 7))) y' (nI (k + 1)) σ) := fun y' hy' => ih (_, _, y') ⟨rfl, rfl, hy'⟩
    rw [← e1, e2] at nxt
    have kx := md_next h hP hs hn hw (met := metB (wE E s) (T 0 7) k)
    by_cases z : nI k = x2
    · have := nxt (nI t) (fun i t' hi hx ht' hpl => by
        have hik : i = k := by
          have h3 : nI k = nI i := z.trans hx
          exact ((nI_eq (by omega) (by omega)).mp h3).symm
        subst hik
        rw [pl_inj ht' t1 (hpl.trans t3.symm)])
      have z' : (nI k = x2) = True := eq_true z
      simp (disch := omega) only [Md_tries_l138, pl_0, pl_1, pl_2, pl_3, pl_4, pl_5, pl_6, pl_7, pl_8, pl_9, pl_10, pl_11, pl_12, pl_13, pl_14, pl_15, pl_16, pl_17, pl_18, pl_19, pl_20, pl_21, pl_30, pl_40, pl_50, pl_51, pl_60, pl_70, pl_71, pl_99, pl_100, pl_160, pl_240, pl_256, pl_300, pl_999, pl_1000, pl_1280, pl_9999, pl_10000, pu_neg, pu_nn, pu_le, pu_lt, pu_eq, pu_cl, pu_in, pu_g, ↓pu_let, ↓pu_bind, pu_m1, pu_add, pu_mul, Nat.not_lt_zero, if_false, if_true, Nat.zero_le, pu_d2, pu_d100, pu_em1, ↓reduceIte, Nat.reduceEqDiff, Nat.reduceLT, Nat.reduceLeDiff, Nat.reduceAdd, Nat.reduceMul, Nat.reduceSub, not_true_eq_false, not_false_eq_true, and_true, true_and, and_false, false_and, or_true, true_or, or_false, false_or, Nat.lt_irrefl, Nat.le_refl, Nat.add_zero, Bool.false_eq_true, ↓pu_gI, nd_le, nd_leT, nd_lt, nd_ltT, nd_eq, nd_eqT, h.1.p, kx, t2, pu_pred, kN, pu_shl, fa_or, z']
      exact this
    · have := nxt y (fun i t' hi hx ht' hpl => by
        by_cases hik : i = k
        · subst hik
          exact absurd hx.symm z
        · exact a3 i t' (by omega) hx ht' hpl)
      simp (disch := omega) only [Md_tries_l138, pl_0, pl_1, pl_2, pl_3, pl_4, pl_5, pl_6, pl_7, pl_8, pl_9, pl_10, pl_11, pl_12, pl_13, pl_14, pl_15, pl_16, pl_17, pl_18, pl_19, pl_20, pl_21, pl_30, pl_40, pl_50, pl_51, pl_60, pl_70, pl_71, pl_99, pl_100, pl_160, pl_240, pl_256, pl_300, pl_999, pl_1000, pl_1280, pl_9999, pl_10000, pu_neg, pu_nn, pu_le, pu_lt, pu_eq, pu_cl, pu_in, pu_g, ↓pu_let, ↓pu_bind, pu_m1, pu_add, pu_mul, Nat.not_lt_zero, if_false, if_true, Nat.zero_le, pu_d2, pu_d100, pu_em1, ↓reduceIte, Nat.reduceEqDiff, Nat.reduceLT, Nat.reduceLeDiff, Nat.reduceAdd, Nat.reduceMul, Nat.reduceSub, not_true_eq_false, not_false_eq_true, and_true, true_and, and_false, false_and, or_true, true_or, or_false, false_or, Nat.lt_irrefl, Nat.le_refl, Nat.add_zero, Bool.false_eq_true, ↓pu_gI, nd_le, nd_leT, nd_lt, nd_ltT, nd_eq, nd_eqT, h.1.p, kx, t2, pu_pred, kN, pu_shl, fa_or, z]
      exact this
  · intro n' ab hab
    obtain ⟨b1, b2, y⟩ := ab
    obtain ⟨a1, a2, a3⟩ := hab
    simp only at a1 a2 a3
    subst a1 a2
    have e3 : smF (metB (wE E s) (T 0 7) (T 0 7)) (wpN (wE E s) (T 0 7)) (T 0 7) = smF (fun _ => true) (wpN (wE E s) (T 0 7)) (T 0 7) := sm_congr _ (fun i hi => by
      unfold metB
      simp [(pl_le (w := wE E s) hi).2])
    simp (disch := omega) only [Md_tries_l138, pl_0, pl_1, pl_2, pl_3, pl_4, pl_5, pl_6, pl_7, pl_8, pl_9, pl_10, pl_11, pl_12, pl_13, pl_14, pl_15, pl_16, pl_17, pl_18, pl_19, pl_20, pl_21, pl_30, pl_40, pl_50, pl_51, pl_60, pl_70, pl_71, pl_99, pl_100, pl_160, pl_240, pl_256, pl_300, pl_999, pl_1000, pl_1280, pl_9999, pl_10000, pu_neg, pu_nn, pu_le, pu_lt, pu_eq, pu_cl, pu_in, pu_g, ↓pu_let, ↓pu_bind, pu_m1, pu_add, pu_mul, Nat.not_lt_zero, if_false, if_true, Nat.zero_le, pu_d2, pu_d100, pu_em1, ↓reduceIte, Nat.reduceEqDiff, Nat.reduceLT, Nat.reduceLeDiff, Nat.reduceAdd, Nat.reduceMul, Nat.reduceSub, not_true_eq_false, not_false_eq_true, and_true, true_and, and_false, false_and, or_true, true_or, or_false, false_or, Nat.lt_irrefl, Nat.le_refl, Nat.add_zero, Bool.false_eq_true, ↓pu_gI, nd_le, nd_leT, nd_lt, nd_ltT, nd_eq, nd_eqT, h.1.p]
    rw [e3]
    exact hK y (fun i t hi => a3 i t hi)
theorem m1x {x : Int32} (hx : x < 0) (hne : x ≠ -nI 1) : x < -nI 1 := by
  have h1 := Int32.lt_iff_toInt_lt.mp hx
  refine Int32.lt_iff_toInt_lt.mpr ?_
  have h0 : (0 : Int32).toInt = 0 := by decide
  have hm : (-nI 1 : Int32).toInt = -1 := by decide +kernel
  have hd : x.toInt ≠ -1 := fun q => hne (Int32.toInt_inj.mp (q.trans hm.symm))
  omega
theorem tri_c (x1 x2 : Int32) {b : Nat} (h1 : 1 ≤ b) (h7 : b ≤ 7) : Nm_tries_j74 x1 x2 (-nI b) σ = some (-nI b, rfC σ b) ∧ Nm_tries_j48 x1 x2 (-nI b) σ = some (-nI b, rfC σ b) := by
  have k : Nm_tries_j74 x1 x2 (-nI b) σ = some (-nI b, rfC σ b) := by
    unfold Nm_tries_j74
    simp (disch := omega) only [pl_0, pl_1, pl_2, pl_3, pl_4, pl_5, pl_6, pl_7, pl_8, pl_9, pl_10, pl_11, pl_12, pl_13, pl_14, pl_15, pl_16, pl_17, pl_18, pl_19, pl_20, pl_21, pl_30, pl_40, pl_50, pl_51, pl_60, pl_70, pl_71, pl_99, pl_100, pl_160, pl_240, pl_256, pl_300, pl_999, pl_1000, pl_1280, pl_9999, pl_10000, pu_neg, pu_nn, pu_le, pu_lt, pu_eq, pu_cl, pu_in, pu_g, ↓pu_let, ↓pu_bind, pu_m1, pu_add, pu_mul, Nat.not_lt_zero, if_false, if_true, Nat.zero_le, pu_d2, pu_d100, pu_em1, ↓reduceIte, Nat.reduceEqDiff, Nat.reduceLT, Nat.reduceLeDiff, Nat.reduceAdd, Nat.reduceMul, Nat.reduceSub, not_true_eq_false, not_false_eq_true, and_true, true_and, and_false, false_and, or_true, true_or, or_false, false_or, Nat.lt_irrefl, Nat.le_refl, Nat.add_zero, Bool.false_eq_true, ↓pu_gI, nd_le, nd_leT, nd_lt, nd_ltT, nd_eq, nd_eqT, pu_ng, nm_ref]
  refine ⟨k, ?_⟩
  unfold Nm_tries_j48
  simp (disch := omega) only [pl_0, pl_1, pl_2, pl_3, pl_4, pl_5, pl_6, pl_7, pl_8, pl_9, pl_10, pl_11, pl_12, pl_13, pl_14, pl_15, pl_16, pl_17, pl_18, pl_19, pl_20, pl_21, pl_30, pl_40, pl_50, pl_51, pl_60, pl_70, pl_71, pl_99, pl_100, pl_160, pl_240, pl_256, pl_300, pl_999, pl_1000, pl_1280, pl_9999, pl_10000, pu_neg, pu_nn, pu_le, pu_lt, pu_eq, pu_cl, pu_in, pu_g, ↓pu_let, ↓pu_bind, pu_m1, pu_add, pu_mul, Nat.not_lt_zero, if_false, if_true, Nat.zero_le, pu_d2, pu_d100, pu_em1, ↓reduceIte, Nat.reduceEqDiff, Nat.reduceLT, Nat.reduceLeDiff, Nat.reduceAdd, Nat.reduceMul, Nat.reduceSub, not_true_eq_false, not_false_eq_true, and_true, true_and, and_false, false_and, or_true, true_or, or_false, false_or, Nat.lt_irrefl, Nat.le_refl, Nat.add_zero, Bool.false_eq_true, ↓pu_gI, nd_le, nd_leT, nd_lt, nd_ltT, nd_eq, nd_eqT, pu_ng, k]
theorem tri_m (h : MF σ T U E) (hI : IslI T) (x1 x2 x4 : Int32) {b : Nat} (h1 : 1 ≤ b) (h7 : b ≤ 7) : Md_tries_j116 x1 x2 (-nI b) x4 σ = some (-nI b, rfM σ b) ∧ Md_tries_j42 x1 x2 (-nI b) x4 σ = some (-nI b, rfM σ b) := by
  have hp := hI.2.1
  have k : Md_tries_j116 x1 x2 (-nI b) x4 σ = some (-nI b, rfM σ b) := by
    unfold Md_tries_j116
    simp (disch := omega) only [pl_0, pl_1, pl_2, pl_3, pl_4, pl_5, pl_6, pl_7, pl_8, pl_9, pl_10, pl_11, pl_12, pl_13, pl_14, pl_15, pl_16, pl_17, pl_18, pl_19, pl_20, pl_21, pl_30, pl_40, pl_50, pl_51, pl_60, pl_70, pl_71, pl_99, pl_100, pl_160, pl_240, pl_256, pl_300, pl_999, pl_1000, pl_1280, pl_9999, pl_10000, pu_neg, pu_nn, pu_le, pu_lt, pu_eq, pu_cl, pu_in, pu_g, ↓pu_let, ↓pu_bind, pu_m1, pu_add, pu_mul, Nat.not_lt_zero, if_false, if_true, Nat.zero_le, pu_d2, pu_d100, pu_em1, ↓reduceIte, Nat.reduceEqDiff, Nat.reduceLT, Nat.reduceLeDiff, Nat.reduceAdd, Nat.reduceMul, Nat.reduceSub, not_true_eq_false, not_false_eq_true, and_true, true_and, and_false, false_and, or_true, true_or, or_false, false_or, Nat.lt_irrefl, Nat.le_refl, Nat.add_zero, Bool.false_eq_true, ↓pu_gI, nd_le, nd_leT, nd_lt, nd_ltT, nd_eq, nd_eqT, pu_ng, md_no]
  refine ⟨k, ?_⟩
  unfold Md_tries_j42
  simp only [pl_0, pl_1, pl_2, pl_3, pl_4, pl_5, pl_6, pl_7, pl_8, pl_9, pl_10, pl_11, pl_12, pl_13, pl_14, pl_15, pl_16, pl_17, pl_18, pl_19, pl_20, pl_21, pl_30, pl_40, pl_50, pl_51, pl_60, pl_70, pl_71, pl_99, pl_100, pl_160, pl_240, pl_256, pl_300, pl_999, pl_1000, pl_1280, pl_9999, pl_10000]
  rw [Md_tries_l45]
  simp (disch := omega) only [Md_tries_j104, pl_0, pl_1, pl_2, pl_3, pl_4, pl_5, pl_6, pl_7, pl_8, pl_9, pl_10, pl_11, pl_12, pl_13, pl_14, pl_15, pl_16, pl_17, pl_18, pl_19, pl_20, pl_21, pl_30, pl_40, pl_50, pl_51, pl_60, pl_70, pl_71, pl_99, pl_100, pl_160, pl_240, pl_256, pl_300, pl_999, pl_1000, pl_1280, pl_9999, pl_10000, pu_neg, pu_nn, pu_le, pu_lt, pu_eq, pu_cl, pu_in, pu_g, ↓pu_let, ↓pu_bind, pu_m1, pu_add, pu_mul, Nat.not_lt_zero, if_false, if_true, Nat.zero_le, pu_d2, pu_d100, pu_em1, ↓reduceIte, Nat.reduceEqDiff, Nat.reduceLT, Nat.reduceLeDiff, Nat.reduceAdd, Nat.reduceMul, Nat.reduceSub, not_true_eq_false, not_false_eq_true, and_true, true_and, and_false, false_and, or_true, true_or, or_false, false_or, Nat.lt_irrefl, Nat.le_refl, Nat.add_zero, Bool.false_eq_true, ↓pu_gI, nd_le, nd_leT, nd_lt, nd_ltT, nd_eq, nd_eqT, h.1.p, pu_ng, k]
theorem md_wts (h : MF σ T U E) (hP : PF T U) {s : Nat} (hs : s < 8) (hn : T 0 7 ≤ U 2 s) (x2 : Int32) : Md_tries_j42 (nI s) x2 (nI 0) (nI 0) σ = if allF (wiB E s 99) (T 0 7) = true then Md_tries_j104 (nI s) x2 (nI 0) (nI (suW (wE E s) (T 0 7))) σ else some (-nI 6, rfM σ 6) := by
  have hI := hP.1
  have hp := hI.2.1
  unfold Md_tries_j42
  simp only [pl_0, pl_1, pl_2, pl_3, pl_4, pl_5, pl_6, pl_7, pl_8, pl_9, pl_10, pl_11, pl_12, pl_13, pl_14, pl_15, pl_16, pl_17, pl_18, pl_19, pl_20, pl_21, pl_30, pl_40, pl_50, pl_51, pl_60, pl_70, pl_71, pl_99, pl_100, pl_160, pl_240, pl_256, pl_300, pl_999, pl_1000, pl_1280, pl_9999, pl_10000]
  have six : ∀ x4, Md_tries_j104 (nI s) x2 (-nI 6) x4 σ = some (-nI 6, rfM σ 6) := fun x4 => by
    unfold Md_tries_j104
    simp (disch := omega) only [pl_0, pl_1, pl_2, pl_3, pl_4, pl_5, pl_6, pl_7, pl_8, pl_9, pl_10, pl_11, pl_12, pl_13, pl_14, pl_15, pl_16, pl_17, pl_18, pl_19, pl_20, pl_21, pl_30, pl_40, pl_50, pl_51, pl_60, pl_70, pl_71, pl_99, pl_100, pl_160, pl_240, pl_256, pl_300, pl_999, pl_1000, pl_1280, pl_9999, pl_10000, pu_neg, pu_nn, pu_le, pu_lt, pu_eq, pu_cl, pu_in, pu_g, ↓pu_let, ↓pu_bind, pu_m1, pu_add, pu_mul, Nat.not_lt_zero, if_false, if_true, Nat.zero_le, pu_d2, pu_d100, pu_em1, ↓reduceIte, Nat.reduceEqDiff, Nat.reduceLT, Nat.reduceLeDiff, Nat.reduceAdd, Nat.reduceMul, Nat.reduceSub, not_true_eq_false, not_false_eq_true, and_true, true_and, and_false, false_and, or_true, true_or, or_false, false_or, Nat.lt_irrefl, Nat.le_refl, Nat.add_zero, Bool.false_eq_true, ↓pu_gI, nd_le, nd_leT, nd_lt, nd_ltT, nd_eq, nd_eqT, pu_ng, (tri_m h hI (nI s) x2 x4 (b := 6) (by omega) (by omega)).1]
  refine lp_Q (fun n' p (bs : Int32 × Nat) => Md_tries_l45 _ n' (nI s) x2 bs.1 (nI bs.2) (nI p) σ) (T 0 7) (fun p bs => (bs.1 = nI 0 ∧ allF (wiB E s 99) p = true ∧ bs.2 = suW (wE E s) p) ∨ (bs.1 = -nI 6 ∧ allF (wiB E s 99) (T 0 7) = false)) (fun r => r = if allF (wiB E s 99) (T 0 7) = true then Md_tries_j104 (nI s) x2 (nI 0) (nI (suW (wE E s) (T 0 7))) σ else some (-nI 6, rfM σ 6)) ?_ ?_ 400 0 (nI 0, 0) (by omega) (Or.inl ⟨rfl, rfl, rfl⟩) (by omega)
  · intro n' p bs hpn hb ih
    obtain ⟨b, w⟩ := bs
    simp only at hb
    rcases hb with ⟨rfl, hA, rfl⟩ | ⟨rfl, hA⟩
    · have kN := md_int h hP hs (show p < U 2 s by omega)
      by_cases y : un (eN E s p) ≤ 99
      · have hs2 := ih (nI 0, suW (wE E s) (p + 1)) (Or.inl ⟨rfl, allF_t hA (by unfold wiB; rw [decide_eq_true y]), rfl⟩)
        have hsu : suW (wE E s) p ≤ 99 * p := suW_le (n := p) (fun q hq => of_decide_eq_true (allF_at p hA q hq)) p (Nat.le_refl _)
        rw [rg_t (eN E s p)] at kN
        simp only [show suW (wE E s) (p + 1) = suW (wE E s) p + un (eN E s p) from rfl] at hs2
        simp (disch := omega) only [Md_tries_l45, pl_0, pl_1, pl_2, pl_3, pl_4, pl_5, pl_6, pl_7, pl_8, pl_9, pl_10, pl_11, pl_12, pl_13, pl_14, pl_15, pl_16, pl_17, pl_18, pl_19, pl_20, pl_21, pl_30, pl_40, pl_50, pl_51, pl_60, pl_70, pl_71, pl_99, pl_100, pl_160, pl_240, pl_256, pl_300, pl_999, pl_1000, pl_1280, pl_9999, pl_10000, pu_neg, pu_nn, pu_le, pu_lt, pu_eq, pu_cl, pu_in, pu_g, ↓pu_let, ↓pu_bind, pu_m1, pu_add, pu_mul, Nat.not_lt_zero, if_false, if_true, Nat.zero_le, pu_d2, pu_d100, pu_em1, ↓reduceIte, Nat.reduceEqDiff, Nat.reduceLT, Nat.reduceLeDiff, Nat.reduceAdd, Nat.reduceMul, Nat.reduceSub, not_true_eq_false, not_false_eq_true, and_true, true_and, and_false, false_and, or_true, true_or, or_false, false_or, Nat.lt_irrefl, Nat.le_refl, Nat.add_zero, Bool.false_eq_true, ↓pu_gI, nd_le, nd_leT, nd_lt, nd_ltT, nd_eq, nd_eqT, h.1.p, kN]
        exact hs2
      · have hF := allF_f (f := wiB E s 99) (i := p) (by unfold wiB; rw [decide_eq_false y]) (T 0 7) hpn
        have hs2 := ih (-nI 6, suW (wE E s) p) (Or.inr ⟨rfl, hF⟩)
        rcases rg_f (by omega) y with hx | hx
        · simp (disch := omega) only [Md_tries_l45, pl_0, pl_1, pl_2, pl_3, pl_4, pl_5, pl_6, pl_7, pl_8, pl_9, pl_10, pl_11, pl_12, pl_13, pl_14, pl_15, pl_16, pl_17, pl_18, pl_19, pl_20, pl_21, pl_30, pl_40, pl_50, pl_51, pl_60, pl_70, pl_71, pl_99, pl_100, pl_160, pl_240, pl_256, pl_300, pl_999, pl_1000, pl_1280, pl_9999, pl_10000, pu_neg, pu_nn, pu_le, pu_lt, pu_eq, pu_cl, pu_in, pu_g, ↓pu_let, ↓pu_bind, pu_m1, pu_add, pu_mul, Nat.not_lt_zero, if_false, if_true, Nat.zero_le, pu_d2, pu_d100, pu_em1, ↓reduceIte, Nat.reduceEqDiff, Nat.reduceLT, Nat.reduceLeDiff, Nat.reduceAdd, Nat.reduceMul, Nat.reduceSub, not_true_eq_false, not_false_eq_true, and_true, true_and, and_false, false_and, or_true, true_or, or_false, false_or, Nat.lt_irrefl, Nat.le_refl, Nat.add_zero, Bool.false_eq_true, ↓pu_gI, nd_le, nd_leT, nd_lt, nd_ltT, nd_eq, nd_eqT, h.1.p, kN, ngl hx, nge hx, ngle hx, nggt hx, ngne hx]
          exact hs2
        · simp (disch := omega) only [Md_tries_l45, pl_0, pl_1, pl_2, pl_3, pl_4, pl_5, pl_6, pl_7, pl_8, pl_9, pl_10, pl_11, pl_12, pl_13, pl_14, pl_15, pl_16, pl_17, pl_18, pl_19, pl_20, pl_21, pl_30, pl_40, pl_50, pl_51, pl_60, pl_70, pl_71, pl_99, pl_100, pl_160, pl_240, pl_256, pl_300, pl_999, pl_1000, pl_1280, pl_9999, pl_10000, pu_neg, pu_nn, pu_le, pu_lt, pu_eq, pu_cl, pu_in, pu_g, ↓pu_let, ↓pu_bind, pu_m1, pu_add, pu_mul, Nat.not_lt_zero, if_false, if_true, Nat.zero_le, pu_d2, pu_d100, pu_em1, ↓reduceIte, Nat.reduceEqDiff, Nat.reduceLT, Nat.reduceLeDiff, Nat.reduceAdd, Nat.reduceMul, Nat.reduceSub, not_true_eq_false, not_false_eq_true, and_true, true_and, and_false, false_and, or_true, true_or, or_false, false_or, Nat.lt_irrefl, Nat.le_refl, Nat.add_zero, Bool.false_eq_true, ↓pu_gI, nd_le, nd_leT, nd_lt, nd_ltT, nd_eq, nd_eqT, h.1.p, kN, bgl hx, bge hx, bgle hx, bggt hx, bgne hx, bgm1 hx]
          exact hs2
    · simp (disch := omega) only [Md_tries_l45, pl_0, pl_1, pl_2, pl_3, pl_4, pl_5, pl_6, pl_7, pl_8, pl_9, pl_10, pl_11, pl_12, pl_13, pl_14, pl_15, pl_16, pl_17, pl_18, pl_19, pl_20, pl_21, pl_30, pl_40, pl_50, pl_51, pl_60, pl_70, pl_71, pl_99, pl_100, pl_160, pl_240, pl_256, pl_300, pl_999, pl_1000, pl_1280, pl_9999, pl_10000, pu_neg, pu_nn, pu_le, pu_lt, pu_eq, pu_cl, pu_in, pu_g, ↓pu_let, ↓pu_bind, pu_m1, pu_add, pu_mul, Nat.not_lt_zero, if_false, if_true, Nat.zero_le, pu_d2, pu_d100, pu_em1, ↓reduceIte, Nat.reduceEqDiff, Nat.reduceLT, Nat.reduceLeDiff, Nat.reduceAdd, Nat.reduceMul, Nat.reduceSub, not_true_eq_false, not_false_eq_true, and_true, true_and, and_false, false_and, or_true, true_or, or_false, false_or, Nat.lt_irrefl, Nat.le_refl, Nat.add_zero, Bool.false_eq_true, ↓pu_gI, nd_le, nd_leT, nd_lt, nd_ltT, nd_eq, nd_eqT, h.1.p, pu_ng, six]
      rw [hA]
      rfl
  · intro n' bs hb
    obtain ⟨b, w⟩ := bs
    simp only at hb
    rcases hb with ⟨rfl, hA, rfl⟩ | ⟨rfl, hA⟩
    · simp (disch := omega) only [Md_tries_l45, pl_0, pl_1, pl_2, pl_3, pl_4, pl_5, pl_6, pl_7, pl_8, pl_9, pl_10, pl_11, pl_12, pl_13, pl_14, pl_15, pl_16, pl_17, pl_18, pl_19, pl_20, pl_21, pl_30, pl_40, pl_50, pl_51, pl_60, pl_70, pl_71, pl_99, pl_100, pl_160, pl_240, pl_256, pl_300, pl_999, pl_1000, pl_1280, pl_9999, pl_10000, pu_neg, pu_nn, pu_le, pu_lt, pu_eq, pu_cl, pu_in, pu_g, ↓pu_let, ↓pu_bind, pu_m1, pu_add, pu_mul, Nat.not_lt_zero, if_false, if_true, Nat.zero_le, pu_d2, pu_d100, pu_em1, ↓reduceIte, Nat.reduceEqDiff, Nat.reduceLT, Nat.reduceLeDiff, Nat.reduceAdd, Nat.reduceMul, Nat.reduceSub, not_true_eq_false, not_false_eq_true, and_true, true_and, and_false, false_and, or_true, true_or, or_false, false_or, Nat.lt_irrefl, Nat.le_refl, Nat.add_zero, Bool.false_eq_true, ↓pu_gI, nd_le, nd_leT, nd_lt, nd_ltT, nd_eq, nd_eqT, h.1.p]
      rw [if_pos hA]
    · simp (disch := omega) only [Md_tries_l45, pl_0, pl_1, pl_2, pl_3, pl_4, pl_5, pl_6, pl_7, pl_8, pl_9, pl_10, pl_11, pl_12, pl_13, pl_14, pl_15, pl_16, pl_17, pl_18, pl_19, pl_20, pl_21, pl_30, pl_40, pl_50, pl_51, pl_60, pl_70, pl_71, pl_99, pl_100, pl_160, pl_240, pl_256, pl_300, pl_999, pl_1000, pl_1280, pl_9999, pl_10000, pu_neg, pu_nn, pu_le, pu_lt, pu_eq, pu_cl, pu_in, pu_g, ↓pu_let, ↓pu_bind, pu_m1, pu_add, pu_mul, Nat.not_lt_zero, if_false, if_true, Nat.zero_le, pu_d2, pu_d100, pu_em1, ↓reduceIte, Nat.reduceEqDiff, Nat.reduceLT, Nat.reduceLeDiff, Nat.reduceAdd, Nat.reduceMul, Nat.reduceSub, not_true_eq_false, not_false_eq_true, and_true, true_and, and_false, false_and, or_true, true_or, or_false, false_or, Nat.lt_irrefl, Nat.le_refl, Nat.add_zero, Bool.false_eq_true, ↓pu_gI, nd_le, nd_leT, nd_lt, nd_ltT, nd_eq, nd_eqT, h.1.p, six]
      rw [hA]
      rfl
theorem op_tries (hP : PF T U) (p1 p2 : Int32) : OkQ T U E (Nm_tries p1 p2) (Md_tries p1 p2) := by
  have hI := hP.1
  have hp := hI.2.1
  have ref : ∀ b, 1 ≤ b → b ≤ 3 → (∀ σ, CF σ T U E → Nm_checkRow p1 σ = some (-nI b, σ)) → (∀ σ, MF σ T U E → Md_wanted p1 σ = some (-nI b, σ)) → OkQ T U E (Nm_tries p1 p2) (Md_tries p1 p2) := fun b h1 h3 hA hB => by
    refine qno (b := -nI b) b h1 (by omega) (fun σ h => ?_) (fun σ h => ?_)
    · unfold Nm_tries
      exact (bnr (hA σ h) h1 (by omega)).trans (tri_c _ _ h1 (by omega)).2
    · unfold Md_tries
      exact (bnr (hB σ h) h1 (by omega)).trans (tri_m h hI _ _ _ h1 (by omega)).2
  rcases pu_ix p1 8 (by omega) with h1 | h1 | ⟨s, hs, rfl⟩
  · exact ref 1 (by omega) (by omega) (fun σ _ => nm_ck_lo h1) (fun σ _ => md_ck_lo h1)
  · exact ref 1 (by omega) (by omega) (fun σ _ => nm_ck_hi h1) (fun σ _ => md_ck_hi h1)
  have hl := ck_le U s
  by_cases ck : ¬ ckN U s = 0
  · exact ref (ckN U s) (by omega) (by omega) (fun σ h => by rw [nm_ck h hP hs, if_neg ck]) (fun σ h => by rw [md_ck h hP hs, if_neg ck])
  replace ck := Decidable.not_not.mp ck
  have kc : ∀ σ, CF σ T U E → Nm_checkRow (nI s) σ = some (nI 0, σ) := fun σ h => by rw [nm_ck h hP hs, if_pos ck]
  have km : ∀ σ, MF σ T U E → Md_wanted (nI s) σ = some (nI 0, σ) := fun σ h => by rw [md_ck h hP hs, if_pos ck]
  have e0 : U 0 s = 1 := by
    have := (hP.2 s hs).1.1
    unfold ckN at ck
    by_cases a : U 0 s = 2
    · rw [if_pos a] at ck; omega
    · rw [if_neg a] at ck
      by_cases b : U 0 s = 0
      · rw [if_pos b] at ck; omega
      · omega
  have hsz := (hP.2 s hs).1.2.2
  have five : U 2 s < T 0 7 ∨ (p2 < 0 ∧ p2 ≠ -nI 1) ∨ nI (T 0 7) ≤ p2 → OkQ T U E (Nm_tries (nI s) p2) (Md_tries (nI s) p2) := fun hb => by
    refine qno (b := -nI 5) 5 (by omega) (by omega) (fun σ h => ?_) (fun σ h => ?_)
    · have t5 := (tri_c (σ := σ) (nI s) p2 (b := 5) (by omega) (by omega)).2
      unfold Nm_tries
      refine (bn0 (kc σ h)).trans ((gin hs (by omega)).trans ?_)
      rw [sf_n (by omega), h.size hs, h.1.p]
      by_cases z : U 2 s < T 0 7
      · rw [if_pos (nI_lt z (by omega))]
        exact t5
      · have hb2 := hb.resolve_left z
        have hne : ¬ p2 = -1 := by
          rcases hb2 with k | k
          · exact k.2
          · intro q
            have := bgm1 k (by omega)
            rw [show (-nI 1 : Int32) = -1 from rfl] at this
            rw [this] at q
            exact q
        have kp : Is_isPart 2 p2 σ = some (nI 0, σ) := is_isPart_n h.1 (hb2.elim (fun k => Or.inl k.1) (fun k => Or.inr k))
        rw [if_neg (nI_nlt (by omega) (by omega)), if_neg hne]
        exact (bn0 kp).trans t5
    · have t5 := (tri_m h hI (nI s) p2 0 (b := 5) (by omega) (by omega)).2
      unfold Md_tries
      refine (bn0 (km σ h)).trans ((gin hs (by omega)).trans ?_)
      rw [pu_cl (by omega), h.size hs e0, h.1.p]
      by_cases z : U 2 s < T 0 7
      · rw [if_pos (nI_lt z (by omega))]
        exact t5
      · rw [if_neg (nI_nlt (by omega) (by omega))]
        rcases hb.resolve_left z with k | k
        · rw [if_pos (show p2 < -1 from m1x k.1 k.2)]
          exact t5
        · have g1 : ¬ p2 < -1 := fun q => by
            have h1 := Int32.lt_iff_toInt_lt.mp q
            have h2 := Int32.le_iff_toInt_le.mp k
            rw [nI_toInt (by omega)] at h2
            rw [show (-1 : Int32).toInt = -1 by decide +kernel] at h1
            omega
          have g2 : ¬ p2 < nI (T 0 7) := fun q => by
            have := bgl k (by omega) (Nat.le_refl _)
            rw [this] at q
            exact q
          rw [if_neg g1, if_neg g2]
          exact t5
  by_cases hz : U 2 s < T 0 7
  · exact five (Or.inl hz)
  have hle : T 0 7 ≤ U 2 s := by omega
  have good : (p2 = -nI 1 ∨ ∃ i, i < T 0 7 ∧ p2 = nI i) → OkQ T U E (Nm_tries (nI s) p2) (Md_tries (nI s) p2) := fun hb => by
    have cA : ∀ σ, CF σ T U E → Nm_tries (nI s) p2 σ = Nm_tries_j48 (nI s) p2 (nI 0) σ := fun σ h => by
      unfold Nm_tries
      refine (bn0 (kc σ h)).trans ((gin hs (by omega)).trans ?_)
      rw [sf_n (by omega), h.size hs, h.1.p, if_neg (nI_nlt (by omega) (by omega))]
      rcases hb with rfl | ⟨i, hi, rfl⟩
      · exact if_pos rfl
      · have hne : ¬ nI i = -1 := by
          have := pu_em1 (m := i) (by omega)
          rw [show (-nI 1 : Int32) = -1 from rfl] at this
          rw [this]
          exact id
        rw [if_neg hne]
        exact bn1 (is_isPart_v h.1 hI hi)
    have cM : ∀ σ, MF σ T U E → Md_tries (nI s) p2 σ = Md_tries_j42 (nI s) p2 (nI 0) (nI 0) σ := fun σ h => by
      unfold Md_tries
      refine (bn0 (km σ h)).trans ((gin hs (by omega)).trans ?_)
      rw [pu_cl (by omega), h.size hs e0, h.1.p, if_neg (nI_nlt (by omega) (by omega))]
      rcases hb with rfl | ⟨i, hi, rfl⟩
      · have g1 : ¬ (-nI 1 : Int32) < -1 := by decide +kernel
        have g2 : (-nI 1 : Int32) < nI (T 0 7) := by
          refine Int32.lt_iff_toInt_lt.mpr ?_
          rw [nI_toInt (by omega), show (-nI 1 : Int32).toInt = -1 by decide +kernel]
          omega
        rw [if_neg g1, if_pos g2]
        rfl
      · have g1 : ¬ nI i < -1 := fun q => by
          have h1 := Int32.lt_iff_toInt_lt.mp q
          rw [nI_toInt (by omega), show (-1 : Int32).toInt = -1 by decide +kernel] at h1
          omega
        rw [if_neg g1, if_pos (nI_lt hi (by omega))]
        rfl
    have aw : ∀ σ, CF σ T U E → Nm_areWeights (54 + 2 * s) (nI (T 0 7)) σ = some (nI (if allF (wiB E s 99) (T 0 7) = true ∧ suW (wE E s) (T 0 7) ≠ 0 then 1 else 0), σ) := fun σ h => by
      have k := sh_within h hP hs hle (show 99 < 1000 by omega)
      unfold Nm_areWeights
      by_cases z : allF (wiB E s 99) (T 0 7) = true
      · rw [if_pos z] at k
        have hw : ∀ p, p < T 0 7 → wE E s p ≤ 99 := fun p hpn => of_decide_eq_true (allF_at _ z p hpn)
        have ka := nm_allW h hP hs hle hw
        have hsu := suW_le hw _ (Nat.le_refl _)
        refine (bn1 k).trans ?_
        rw [ka]
        simp (disch := omega) only [pl_0, pl_1, pl_2, pl_3, pl_4, pl_5, pl_6, pl_7, pl_8, pl_9, pl_10, pl_11, pl_12, pl_13, pl_14, pl_15, pl_16, pl_17, pl_18, pl_19, pl_20, pl_21, pl_30, pl_40, pl_50, pl_51, pl_60, pl_70, pl_71, pl_99, pl_100, pl_160, pl_240, pl_256, pl_300, pl_999, pl_1000, pl_1280, pl_9999, pl_10000, pu_neg, pu_nn, pu_le, pu_lt, pu_eq, pu_cl, pu_in, pu_g, ↓pu_let, ↓pu_bind, pu_m1, pu_add, pu_mul, Nat.not_lt_zero, if_false, if_true, Nat.zero_le, pu_d2, pu_d100, pu_em1, ↓reduceIte, Nat.reduceEqDiff, Nat.reduceLT, Nat.reduceLeDiff, Nat.reduceAdd, Nat.reduceMul, Nat.reduceSub, not_true_eq_false, not_false_eq_true, and_true, true_and, and_false, false_and, or_true, true_or, or_false, false_or, Nat.lt_irrefl, Nat.le_refl, Nat.add_zero, Bool.false_eq_true, ↓pu_gI, nd_le, nd_leT, nd_lt, nd_ltT, nd_eq, nd_eqT]
        by_cases y : suW (wE E s) (T 0 7) = 0
        · simp [z, y]
        · simp [z, y]
      · rw [if_neg z] at k
        refine (bn0 k).trans ?_
        rw [if_neg (fun q => z q.1)]
        rfl
    by_cases z : allF (wiB E s 99) (T 0 7) = true ∧ suW (wE E s) (T 0 7) ≠ 0
    · have hw : ∀ p, p < T 0 7 → wE E s p ≤ 99 := fun p hpn => of_decide_eq_true (allF_at _ z.1 p hpn)
      have hsu := suW_le hw _ (Nat.le_refl _)
      have hwp : ∀ p, p < T 0 7 → wpN (wE E s) (T 0 7) p ≤ 792 := fun p hpn => wp_le (hw p hpn) hpn hp.2
      have hsm := sm_le (f := fun _ => true) hwp _ (Nat.le_refl _)
      have c74 : ∀ σ, CF σ T U E → Nm_tries (nI s) p2 σ = Nm_tries_j74 (nI s) p2 (nI 0) σ := fun σ h => by
        have ka := aw σ h
        rw [if_pos z] at ka
        rw [cA σ h]
        unfold Nm_tries_j48
        rw [if_pos nI_0]
        refine (gin hs (by omega)).trans ?_
        rw [sf_n (by omega), h.1.p]
        exact bn1 ka
      have m138 : ∀ σ, MF σ T U E → Md_tries (nI s) p2 σ = Md_tries_j116 (nI s) p2 (nI 0) (nI (suW (wE E s) (T 0 7))) σ := fun σ h => by
        rw [cM σ h, md_wts h hP hs hle, if_pos z.1]
        unfold Md_tries_j104
        have z2 := z.2
        simp (disch := omega) only [pl_0, pl_1, pl_2, pl_3, pl_4, pl_5, pl_6, pl_7, pl_8, pl_9, pl_10, pl_11, pl_12, pl_13, pl_14, pl_15, pl_16, pl_17, pl_18, pl_19, pl_20, pl_21, pl_30, pl_40, pl_50, pl_51, pl_60, pl_70, pl_71, pl_99, pl_100, pl_160, pl_240, pl_256, pl_300, pl_999, pl_1000, pl_1280, pl_9999, pl_10000, pu_neg, pu_nn, pu_le, pu_lt, pu_eq, pu_cl, pu_in, pu_g, ↓pu_let, ↓pu_bind, pu_m1, pu_add, pu_mul, Nat.not_lt_zero, if_false, if_true, Nat.zero_le, pu_d2, pu_d100, pu_em1, ↓reduceIte, Nat.reduceEqDiff, Nat.reduceLT, Nat.reduceLeDiff, Nat.reduceAdd, Nat.reduceMul, Nat.reduceSub, not_true_eq_false, not_false_eq_true, and_true, true_and, and_false, false_and, or_true, true_or, or_false, false_or, Nat.lt_irrefl, Nat.le_refl, Nat.add_zero, Bool.false_eq_true, ↓pu_gI, nd_le, nd_leT, nd_lt, nd_ltT, nd_eq, nd_eqT]
      rcases hb with rfl | ⟨i, hi, rfl⟩
      · refine qeq (nI (smF (fun _ => true) (wpN (wE E s) (T 0 7)) (T 0 7) * 1000 / suW (wE E s) (T 0 7))) (fun σ h => ?_) (fun σ h => ?_)
        · rw [c74 σ h]
          have kt := nm_mean h hP hs hle hp.2 hw z.2
          unfold Nm_tries_j74
          rw [if_pos nI_0]
          refine (if_pos rfl).trans ((gin hs (by omega)).trans ?_)
          rw [sf_n (by omega), h.1.p, kt]
          rfl
        · rw [m138 σ h]
          unfold Md_tries_j116
          rw [if_pos nI_0]
          simp only [pl_0, pl_1, pl_2, pl_3, pl_4, pl_5, pl_6, pl_7, pl_8, pl_9, pl_10, pl_11, pl_12, pl_13, pl_14, pl_15, pl_16, pl_17, pl_18, pl_19, pl_20, pl_21, pl_30, pl_40, pl_50, pl_51, pl_60, pl_70, pl_71, pl_99, pl_100, pl_160, pl_240, pl_256, pl_300, pl_999, pl_1000, pl_1280, pl_9999, pl_10000]
          refine md_order h hP hs hle hw _ _ _ (fun r => r = some (nI (smF (fun _ => true) (wpN (wE E s) (T 0 7)) (T 0 7) * 1000 / suW (wE E s) (T 0 7)), σ)) (fun y _ => ?_)
          have z2 := z.2
          simp (disch := omega) only [pl_0, pl_1, pl_2, pl_3, pl_4, pl_5, pl_6, pl_7, pl_8, pl_9, pl_10, pl_11, pl_12, pl_13, pl_14, pl_15, pl_16, pl_17, pl_18, pl_19, pl_20, pl_21, pl_30, pl_40, pl_50, pl_51, pl_60, pl_70, pl_71, pl_99, pl_100, pl_160, pl_240, pl_256, pl_300, pl_999, pl_1000, pl_1280, pl_9999, pl_10000, pu_neg, pu_nn, pu_le, pu_lt, pu_eq, pu_cl, pu_in, pu_g, ↓pu_let, ↓pu_bind, pu_m1, pu_add, pu_mul, Nat.not_lt_zero, if_false, if_true, Nat.zero_le, pu_d2, pu_d100, pu_em1, ↓reduceIte, Nat.reduceEqDiff, Nat.reduceLT, Nat.reduceLeDiff, Nat.reduceAdd, Nat.reduceMul, Nat.reduceSub, not_true_eq_false, not_false_eq_true, and_true, true_and, and_false, false_and, or_true, true_or, or_false, false_or, Nat.lt_irrefl, Nat.le_refl, Nat.add_zero, Bool.false_eq_true, ↓pu_gI, nd_le, nd_leT, nd_lt, nd_ltT, nd_eq, nd_eqT, decide_false, Bool.not_false, pk_div, Nat.mul_comm 1000]
      · obtain ⟨t, t1, -, t3⟩ := (sel (w := wE E s) (n := T 0 7) i (by omega)).2 hi
        have hne : ¬ nI i = -nI 1 := by
          rw [pu_em1 (by omega)]
          exact id
        refine qeq (nI t) (fun σ h => ?_) (fun σ h => ?_)
        · rw [c74 σ h]
          have kt := nm_triedAt h hP hs hle hp.2 hi t1 t3 hw
          unfold Nm_tries_j74
          rw [if_pos nI_0, show (-1 : Int32) = -nI 1 from rfl, if_neg hne]
          refine (gin hs (by omega)).trans ?_
          rw [sf_n (by omega), h.1.p, kt]
          rfl
        · rw [m138 σ h]
          unfold Md_tries_j116
          rw [if_pos nI_0]
          simp only [pl_0, pl_1, pl_2, pl_3, pl_4, pl_5, pl_6, pl_7, pl_8, pl_9, pl_10, pl_11, pl_12, pl_13, pl_14, pl_15, pl_16, pl_17, pl_18, pl_19, pl_20, pl_21, pl_30, pl_40, pl_50, pl_51, pl_60, pl_70, pl_71, pl_99, pl_100, pl_160, pl_240, pl_256, pl_300, pl_999, pl_1000, pl_1280, pl_9999, pl_10000]
          refine md_order h hP hs hle hw _ _ _ (fun r => r = some (nI t, σ)) (fun y hy => ?_)
          rw [hy i t hi rfl t1 t3]
          exact if_neg hne
    · refine qno (b := -nI 6) 6 (by omega) (by omega) (fun σ h => ?_) (fun σ h => ?_)
      · have ka := aw σ h
        rw [if_neg z] at ka
        rw [cA σ h]
        unfold Nm_tries_j48
        rw [if_pos nI_0]
        refine (gin hs (by omega)).trans ?_
        rw [sf_n (by omega), h.1.p]
        exact (bn0 ka).trans (tri_c _ _ (b := 6) (by omega) (by omega)).1
      · rw [cM σ h, md_wts h hP hs hle]
        by_cases y : allF (wiB E s 99) (T 0 7) = true
        · rw [if_pos y]
          have hs0 : suW (wE E s) (T 0 7) = 0 := by
            by_cases q : suW (wE E s) (T 0 7) = 0
            · exact q
            · exact absurd ⟨y, q⟩ z
          rw [hs0]
          unfold Md_tries_j104
          rw [if_pos nI_0, if_pos nI_0]
          exact (tri_m h hI _ _ _ (b := 6) (by omega) (by omega)).1
        · rw [if_neg y]
  by_cases hm : p2 = -nI 1
  · exact good (Or.inl hm)
  rcases pu_ix p2 (T 0 7) (by omega) with h2 | h2 | ⟨i, hi, rfl⟩
  · exact five (Or.inr (Or.inl ⟨h2, hm⟩))
  · exact five (Or.inr (Or.inr h2))
  · exact good (Or.inr ⟨i, hi, rfl⟩)
end TRI
