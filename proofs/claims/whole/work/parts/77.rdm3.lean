/-! the model's reader: whether a word stands; which numbers may be; a number -/
section RDS
variable {g : Nat → Int32} {N s : Nat} {T0 T V : is_T} {σ a b : nm_St} {p : Nat}
theorem md_sl4 (h : TxM g N s T0 σ a p T) (K : Int32 → nm_St → Option (Int32 × nm_St)) : Md_stands1_l4 K 400 (nI 1) (nI 0) (nI 0) a = K (nI 7) a := by
  have D : ∀ i, i < 6 → 1 ≤ wdN.getD i 0 ∧ wdN.getD i 0 < 128 := by decide
  refine lp_Q (fun n' i (z : Nat) => Md_stands1_l4 K n' (nI 1) (nI i) (nI z) a) 7 (fun i z => z = if i = 7 then 1 else 0) (fun r => r = K (nI 7) a) (fun n' i z hi hz ih => ?_) (fun n' z hz => ?_) 400 0 0 (by omega) rfl (by omega)
  · rw [if_neg (by omega)] at hz
    subst hz
    have k84 := h.wd (i := i) (by omega)
    show Md_stands1_l4 K (n' + 1) (nI 1) (nI i) (nI 0) a = _
    by_cases e : i = 6
    · subst e
      have k0 : a.1 84 6 = nI 0 := k84
      rw [Md_stands1_l4, if_neg (show ¬ nI 1 ≤ nI 0 by rw [pu_le (by omega) (by omega)]; omega), gin (show 6 < 51 by omega) (by omega), pu_cl (by omega), k0, if_pos nI_0, pl_1, pu_let, pu_add, pu_add]
      exact ih 1 rfl
    · have hd := D i (by omega)
      have i2 := ih 0 (by rw [if_neg (by omega)])
      rw [Md_stands1_l4, if_neg (show ¬ nI 1 ≤ nI 0 by rw [pu_le (by omega) (by omega)]; omega), gin (show i < 51 by omega) (by omega), pu_cl (by omega), k84, if_neg (nI_ne0 hd.1 (by omega)), pl_1, pl_0, pu_let, pu_add, pu_add]
      exact i2
  · rw [if_pos rfl] at hz
    subst hz
    show Md_stands1_l4 K (n' + 1) (nI 1) (nI 7) (nI 1) a = _
    rw [Md_stands1_l4, if_pos (show nI 1 ≤ nI 1 by rw [pu_le (by omega) (by omega)]; exact Nat.le_refl _)]
theorem md_sl37s (h : TxM g N s T0 σ a p T) (K : Int32 → nm_St → Option (Int32 × nm_St)) {i n : Nat} (hi : i < ltN g N p (wdL 1)) : Md_stands1_l37 K (n + 1) (nI (7 + i)) (nI (p + i)) a = Md_stands1_l37 K n (nI (7 + (i + 1))) (nI (p + (i + 1))) a := by
  obtain ⟨hN, hs⟩ := h.kn
  have l : (wdL 1).length = 5 := rfl
  have le := lt_le g N (wdL 1) p
  have A := lt_at (wdL 1) p i hi
  have C := wb_l 1 (by omega) i (by omega) (by omega)
  have k84 := h.wd (i := 7 + i) (by omega)
  have w7 : wdN.getD (7 + i) 0 = (wbL 1).getD i 0 := wn_at 1 (by omega) i (by omega) (by omega)
  rw [w7, C.1] at k84
  have eg := h.kg A.1
  rw [A.2] at eg
  rw [Md_stands1_l37, pl_32, gin (show 7 + i < 51 by omega) (by omega), pu_cl (by omega), k84, if_neg (show ¬ nI ((wdL 1).getD i 0) ≤ nI 32 by rw [pu_le (by omega) (by omega)]; omega), h.ke, if_neg (show ¬ nI N ≤ nI (p + i) by rw [pu_le (by omega) (by omega)]; omega), h.kb, pu_add, gin (show 160 * s + (p + i) < 1280 by omega) (by omega), gin (show 7 + i < 51 by omega) (by omega), pu_cl (by omega), eg, if_pos rfl, pl_1, pu_add, pu_add, Nat.add_assoc, Nat.add_assoc]
theorem md_sl37e (h : TxM g N s T0 σ a p T) (hp : p ≤ N) (K : Int32 → nm_St → Option (Int32 × nm_St)) {n : Nat} : Md_stands1_l37 K (n + 1) (nI (7 + ltN g N p (wdL 1))) (nI (p + ltN g N p (wdL 1))) a = K (nI (7 + ltN g N p (wdL 1))) a := by
  obtain ⟨hN, hs⟩ := h.kn
  have l : (wdL 1).length = 5 := rfl
  have le := lt_le g N (wdL 1) p
  by_cases z : ltN g N p (wdL 1) = (wdL 1).length
  · have k84 := h.wd (i := 12) (by omega)
    have k32 : a.1 84 12 = nI 32 := k84
    rw [z, l, Md_stands1_l37, pl_32, gin (show 7 + 5 < 51 by omega) (by omega), pu_cl (by omega), k32, if_pos (show nI 32 ≤ nI 32 by rw [pu_le (by omega) (by omega)]; exact Nat.le_refl _)]
  · have hend := lt_end (g := g) (N := N) (wdL 1) p (by omega)
    generalize hi : ltN g N p (wdL 1) = i at *
    have C := wb_l 1 (by omega) i (by omega) (by omega)
    have k84 := h.wd (i := 7 + i) (by omega)
    have w7 : wdN.getD (7 + i) 0 = (wbL 1).getD i 0 := wn_at 1 (by omega) i (by omega) (by omega)
    rw [w7, C.1] at k84
    rw [Md_stands1_l37, pl_32, gin (show 7 + i < 51 by omega) (by omega), pu_cl (by omega), k84, if_neg (show ¬ nI ((wdL 1).getD i 0) ≤ nI 32 by rw [pu_le (by omega) (by omega)]; omega), h.ke]
    by_cases y : p + i < N
    · have eg := h.kg y
      have ne : ¬ g (p + i) = nI ((wdL 1).getD i 0) := fun q => hend ⟨y, q⟩
      rw [if_neg (show ¬ nI N ≤ nI (p + i) by rw [pu_le (by omega) (by omega)]; omega), h.kb, pu_add, gin (show 160 * s + (p + i) < 1280 by omega) (by omega), gin (show 7 + i < 51 by omega) (by omega), pu_cl (by omega), eg, if_neg ne]
    · rw [if_pos (show nI N ≤ nI (p + i) by rw [pu_le (by omega) (by omega)]; omega)]
theorem md_st (h : TxM g N s T0 σ a p T) (hp : p ≤ N) : Md_stands1 1 a = some (nI (if ltN g N p (wdL 1) = (wdL 1).length then 1 else 0), a) := by
  obtain ⟨hN, hs⟩ := h.kn
  have l : (wdL 1).length = 5 := rfl
  have le := lt_le g N (wdL 1) p
  have k37 : ∀ K : Int32 → nm_St → Option (Int32 × nm_St), Md_stands1_l37 K 400 (nI 7) (nI p) a = K (nI (7 + ltN g N p (wdL 1))) a := fun K => lp_Q (fun n' i (_ : Unit) => Md_stands1_l37 K n' (nI (7 + i)) (nI (p + i)) a) (ltN g N p (wdL 1)) (fun _ _ => True) (fun r => r = K (nI (7 + ltN g N p (wdL 1))) a) (fun n' i _ hi _ ih => (md_sl37s h K hi).trans (ih () trivial)) (fun n' _ _ => md_sl37e h hp K) 400 0 () (Nat.zero_le _) trivial (by omega)
  have st : Md_stands1 1 a = Md_stands1_j86 (nI (7 + ltN g N p (wdL 1))) a := by
    unfold Md_stands1
    rw [pl_1, pl_0, md_sl4 h, h.kp, k37]
  rw [st]
  unfold Md_stands1_j86
  rw [gin (show 7 + ltN g N p (wdL 1) < 51 by omega) (by omega), pu_cl (by omega), pl_32]
  by_cases z : ltN g N p (wdL 1) = (wdL 1).length
  · have k84 := h.wd (i := 12) (by omega)
    have k32 : a.1 84 12 = nI 32 := k84
    rw [if_pos z, z, l, k32, if_neg (show ¬ nI 32 < nI 32 by rw [pu_lt (by omega) (by omega)]; omega), pl_1]
  · rw [if_neg z]
    generalize hi : ltN g N p (wdL 1) = i at *
    have C := wb_l 1 (by omega) i (by omega) (by omega)
    have k84 := h.wd (i := 7 + i) (by omega)
    have w7 : wdN.getD (7 + i) 0 = (wbL 1).getD i 0 := wn_at 1 (by omega) i (by omega) (by omega)
    rw [w7, C.1] at k84
    rw [k84, if_pos (show nI 32 < nI ((wdL 1).getD i 0) by rw [pu_lt (by omega) (by omega)]; omega), pl_0]
theorem js_99 {y0 y1 : Nat} (h0 : y0 < 2147483648) (h1 : y1 < 2147483648) : Md_isSo_j99 (nI y0) (nI y1) a = some (nI (if decide (y0 ≤ y1) then 1 else 0), a) := by
  unfold Md_isSo_j99
  by_cases z : y0 ≤ y1
  · rw [decide_eq_true z, if_neg (show ¬ nI y1 < nI y0 by rw [pu_lt h1 h0]; omega), pl_1]
    rfl
  · rw [decide_eq_false z, if_pos (show nI y1 < nI y0 by rw [pu_lt h1 h0]; omega), pl_0]
    rfl
theorem js_127 {y0 y1 : Nat} (h0 : y0 < 2147483648) (h1 : y1 < 2147483648) : Md_isSo_j127 (nI y0) (nI y1) a = some (nI (if decide (y0 < y1) then 1 else 0), a) := by
  unfold Md_isSo_j127
  by_cases z : y0 < y1
  · rw [decide_eq_true z, if_neg (show ¬ nI y1 ≤ nI y0 by rw [pu_le h1 h0]; omega), pl_1]
    rfl
  · rw [decide_eq_false z, if_pos (show nI y1 ≤ nI y0 by rw [pu_le h1 h0]; omega), pl_0]
    rfl
theorem md_isSo (h : TxM g N s T0 σ a p T) (hI : IslI T) {w i v t : Nat} (hw : w < 8) (hi : i < nuC w) (hv : v ≤ 9999) (e26 : a.1 70 26 = nI v) (ht : t ≤ 9999) (e86 : i ≠ 0 → a.1 86 0 = nI t) : Md_isSo (nI w) (nI i) a = some (nI (if okS T w i t v then 1 else 0), a) := by
  have hM := h.2.2.1
  have kc := hM.c
  have kp := hM.p
  have h6 := hI.1
  have h7 := hI.2.1
  have n3 : nuC w ≤ 3 := by
    unfold nuC
    repeat' split
    all_goals omega
  have hi3 : i = 0 ∨ i = 1 ∨ i = 2 := by omega
  rcases sh_ix hw with rfl | rfl | rfl | rfl | rfl | rfl | rfl | rfl
  · have eo : okS T 0 i t v = (decide (T 0 7 ≤ v) && decide (v ≤ 8)) := rfl
    rw [eo]
    unfold Md_isSo
    by_cases x : T 0 7 ≤ v
    · by_cases y : v ≤ 8 <;> simp (disch := omega) only [pl_0, pl_1, pl_2, pl_3, pl_4, pl_5, pl_6, pl_7, pl_8, pl_9, pl_10, pl_11, pl_12, pl_13, pl_14, pl_15, pl_16, pl_17, pl_18, pl_19, pl_20, pl_21, pl_30, pl_40, pl_50, pl_51, pl_60, pl_70, pl_71, pl_99, pl_100, pl_160, pl_240, pl_256, pl_300, pl_999, pl_1000, pl_1280, pl_9999, pl_10000, pu_neg, pu_nn, pu_le, pu_lt, pu_eq, pu_cl, pu_in, pu_g, ↓pu_let, ↓pu_bind, pu_m1, pu_add, pu_mul, Nat.not_lt_zero, if_false, if_true, Nat.zero_le, pu_d2, pu_d100, pu_em1, ↓reduceIte, Nat.reduceEqDiff, Nat.reduceLT, Nat.reduceLeDiff, Nat.reduceAdd, Nat.reduceMul, Nat.reduceSub, not_true_eq_false, not_false_eq_true, and_true, true_and, and_false, false_and, or_true, true_or, or_false, false_or, Nat.lt_irrefl, Nat.le_refl, Nat.add_zero, Bool.false_eq_true, ↓pu_gI, nd_le, nd_leT, nd_lt, nd_ltT, nd_eq, nd_eqT, e26, kp, x, y, decide_true, decide_false, Bool.true_and, Bool.false_and, Bool.and_true, Bool.and_false]
    · simp (disch := omega) only [pl_0, pl_1, pl_2, pl_3, pl_4, pl_5, pl_6, pl_7, pl_8, pl_9, pl_10, pl_11, pl_12, pl_13, pl_14, pl_15, pl_16, pl_17, pl_18, pl_19, pl_20, pl_21, pl_30, pl_40, pl_50, pl_51, pl_60, pl_70, pl_71, pl_99, pl_100, pl_160, pl_240, pl_256, pl_300, pl_999, pl_1000, pl_1280, pl_9999, pl_10000, pu_neg, pu_nn, pu_le, pu_lt, pu_eq, pu_cl, pu_in, pu_g, ↓pu_let, ↓pu_bind, pu_m1, pu_add, pu_mul, Nat.not_lt_zero, if_false, if_true, Nat.zero_le, pu_d2, pu_d100, pu_em1, ↓reduceIte, Nat.reduceEqDiff, Nat.reduceLT, Nat.reduceLeDiff, Nat.reduceAdd, Nat.reduceMul, Nat.reduceSub, not_true_eq_false, not_false_eq_true, and_true, true_and, and_false, false_and, or_true, true_or, or_false, false_or, Nat.lt_irrefl, Nat.le_refl, Nat.add_zero, Bool.false_eq_true, ↓pu_gI, nd_le, nd_leT, nd_lt, nd_ltT, nd_eq, nd_eqT, e26, kp, x, decide_true, decide_false, Bool.true_and, Bool.false_and, Bool.and_true, Bool.and_false]
  · rcases hi3 with rfl | rfl | rfl
    · have k := js_99 (a := a) (y0 := v) (y1 := 6) (by omega) (by omega)
      unfold Md_isSo
      simp (disch := omega) only [pl_0, pl_1, pl_2, pl_3, pl_4, pl_5, pl_6, pl_7, pl_8, pl_9, pl_10, pl_11, pl_12, pl_13, pl_14, pl_15, pl_16, pl_17, pl_18, pl_19, pl_20, pl_21, pl_30, pl_40, pl_50, pl_51, pl_60, pl_70, pl_71, pl_99, pl_100, pl_160, pl_240, pl_256, pl_300, pl_999, pl_1000, pl_1280, pl_9999, pl_10000, pu_neg, pu_nn, pu_le, pu_lt, pu_eq, pu_cl, pu_in, pu_g, ↓pu_let, ↓pu_bind, pu_m1, pu_add, pu_mul, Nat.not_lt_zero, if_false, if_true, Nat.zero_le, pu_d2, pu_d100, pu_em1, ↓reduceIte, Nat.reduceEqDiff, Nat.reduceLT, Nat.reduceLeDiff, Nat.reduceAdd, Nat.reduceMul, Nat.reduceSub, not_true_eq_false, not_false_eq_true, and_true, true_and, and_false, false_and, or_true, true_or, or_false, false_or, Nat.lt_irrefl, Nat.le_refl, Nat.add_zero, Bool.false_eq_true, ↓pu_gI, nd_le, nd_leT, nd_lt, nd_ltT, nd_eq, nd_eqT, e26, k]
      rfl
    · have k := js_99 (a := a) (y0 := v) (y1 := 9) (by omega) (by omega)
      unfold Md_isSo
      simp (disch := omega) only [pl_0, pl_1, pl_2, pl_3, pl_4, pl_5, pl_6, pl_7, pl_8, pl_9, pl_10, pl_11, pl_12, pl_13, pl_14, pl_15, pl_16, pl_17, pl_18, pl_19, pl_20, pl_21, pl_30, pl_40, pl_50, pl_51, pl_60, pl_70, pl_71, pl_99, pl_100, pl_160, pl_240, pl_256, pl_300, pl_999, pl_1000, pl_1280, pl_9999, pl_10000, pu_neg, pu_nn, pu_le, pu_lt, pu_eq, pu_cl, pu_in, pu_g, ↓pu_let, ↓pu_bind, pu_m1, pu_add, pu_mul, Nat.not_lt_zero, if_false, if_true, Nat.zero_le, pu_d2, pu_d100, pu_em1, ↓reduceIte, Nat.reduceEqDiff, Nat.reduceLT, Nat.reduceLeDiff, Nat.reduceAdd, Nat.reduceMul, Nat.reduceSub, not_true_eq_false, not_false_eq_true, and_true, true_and, and_false, false_and, or_true, true_or, or_false, false_or, Nat.lt_irrefl, Nat.le_refl, Nat.add_zero, Bool.false_eq_true, ↓pu_gI, nd_le, nd_leT, nd_lt, nd_ltT, nd_eq, nd_eqT, e26, k]
      rfl
    · have k := js_99 (a := a) (y0 := v) (y1 := 99) (by omega) (by omega)
      unfold Md_isSo
      simp (disch := omega) only [pl_0, pl_1, pl_2, pl_3, pl_4, pl_5, pl_6, pl_7, pl_8, pl_9, pl_10, pl_11, pl_12, pl_13, pl_14, pl_15, pl_16, pl_17, pl_18, pl_19, pl_20, pl_21, pl_30, pl_40, pl_50, pl_51, pl_60, pl_70, pl_71, pl_99, pl_100, pl_160, pl_240, pl_256, pl_300, pl_999, pl_1000, pl_1280, pl_9999, pl_10000, pu_neg, pu_nn, pu_le, pu_lt, pu_eq, pu_cl, pu_in, pu_g, ↓pu_let, ↓pu_bind, pu_m1, pu_add, pu_mul, Nat.not_lt_zero, if_false, if_true, Nat.zero_le, pu_d2, pu_d100, pu_em1, ↓reduceIte, Nat.reduceEqDiff, Nat.reduceLT, Nat.reduceLeDiff, Nat.reduceAdd, Nat.reduceMul, Nat.reduceSub, not_true_eq_false, not_false_eq_true, and_true, true_and, and_false, false_and, or_true, true_or, or_false, false_or, Nat.lt_irrefl, Nat.le_refl, Nat.add_zero, Bool.false_eq_true, ↓pu_gI, nd_le, nd_leT, nd_lt, nd_ltT, nd_eq, nd_eqT, e26, k]
      rfl
  · have hi2 : i = 0 ∨ i = 1 := by
      have : i < 2 := hi
      omega
    rcases hi2 with rfl | rfl
    · have k := js_127 (a := a) (y0 := v) (y1 := T 0 6) (by omega) (by omega)
      unfold Md_isSo
      simp (disch := omega) only [pl_0, pl_1, pl_2, pl_3, pl_4, pl_5, pl_6, pl_7, pl_8, pl_9, pl_10, pl_11, pl_12, pl_13, pl_14, pl_15, pl_16, pl_17, pl_18, pl_19, pl_20, pl_21, pl_30, pl_40, pl_50, pl_51, pl_60, pl_70, pl_71, pl_99, pl_100, pl_160, pl_240, pl_256, pl_300, pl_999, pl_1000, pl_1280, pl_9999, pl_10000, pu_neg, pu_nn, pu_le, pu_lt, pu_eq, pu_cl, pu_in, pu_g, ↓pu_let, ↓pu_bind, pu_m1, pu_add, pu_mul, Nat.not_lt_zero, if_false, if_true, Nat.zero_le, pu_d2, pu_d100, pu_em1, ↓reduceIte, Nat.reduceEqDiff, Nat.reduceLT, Nat.reduceLeDiff, Nat.reduceAdd, Nat.reduceMul, Nat.reduceSub, not_true_eq_false, not_false_eq_true, and_true, true_and, and_false, false_and, or_true, true_or, or_false, false_or, Nat.lt_irrefl, Nat.le_refl, Nat.add_zero, Bool.false_eq_true, ↓pu_gI, nd_le, nd_leT, nd_lt, nd_ltT, nd_eq, nd_eqT, e26, kc, k]
      rfl
    · have k := js_127 (a := a) (y0 := v) (y1 := T 0 7) (by omega) (by omega)
      unfold Md_isSo
      simp (disch := omega) only [pl_0, pl_1, pl_2, pl_3, pl_4, pl_5, pl_6, pl_7, pl_8, pl_9, pl_10, pl_11, pl_12, pl_13, pl_14, pl_15, pl_16, pl_17, pl_18, pl_19, pl_20, pl_21, pl_30, pl_40, pl_50, pl_51, pl_60, pl_70, pl_71, pl_99, pl_100, pl_160, pl_240, pl_256, pl_300, pl_999, pl_1000, pl_1280, pl_9999, pl_10000, pu_neg, pu_nn, pu_le, pu_lt, pu_eq, pu_cl, pu_in, pu_g, ↓pu_let, ↓pu_bind, pu_m1, pu_add, pu_mul, Nat.not_lt_zero, if_false, if_true, Nat.zero_le, pu_d2, pu_d100, pu_em1, ↓reduceIte, Nat.reduceEqDiff, Nat.reduceLT, Nat.reduceLeDiff, Nat.reduceAdd, Nat.reduceMul, Nat.reduceSub, not_true_eq_false, not_false_eq_true, and_true, true_and, and_false, false_and, or_true, true_or, or_false, false_or, Nat.lt_irrefl, Nat.le_refl, Nat.add_zero, Bool.false_eq_true, ↓pu_gI, nd_le, nd_leT, nd_lt, nd_ltT, nd_eq, nd_eqT, e26, kp, k]
      rfl
  · have eo : okS T 3 i t v = (decide (v < T 0 6) && (decide (i = 0) || decide (v ≠ t))) := rfl
    have hi2 : i = 0 ∨ i = 1 := by
      have : i < 2 := hi
      omega
    rw [eo]
    rcases hi2 with rfl | rfl
    · unfold Md_isSo
      by_cases x : v < T 0 6 <;> simp (disch := omega) only [pl_0, pl_1, pl_2, pl_3, pl_4, pl_5, pl_6, pl_7, pl_8, pl_9, pl_10, pl_11, pl_12, pl_13, pl_14, pl_15, pl_16, pl_17, pl_18, pl_19, pl_20, pl_21, pl_30, pl_40, pl_50, pl_51, pl_60, pl_70, pl_71, pl_99, pl_100, pl_160, pl_240, pl_256, pl_300, pl_999, pl_1000, pl_1280, pl_9999, pl_10000, pu_neg, pu_nn, pu_le, pu_lt, pu_eq, pu_cl, pu_in, pu_g, ↓pu_let, ↓pu_bind, pu_m1, pu_add, pu_mul, Nat.not_lt_zero, if_false, if_true, Nat.zero_le, pu_d2, pu_d100, pu_em1, ↓reduceIte, Nat.reduceEqDiff, Nat.reduceLT, Nat.reduceLeDiff, Nat.reduceAdd, Nat.reduceMul, Nat.reduceSub, not_true_eq_false, not_false_eq_true, and_true, true_and, and_false, false_and, or_true, true_or, or_false, false_or, Nat.lt_irrefl, Nat.le_refl, Nat.add_zero, Bool.false_eq_true, ↓pu_gI, nd_le, nd_leT, nd_lt, nd_ltT, nd_eq, nd_eqT, e26, kc, x, decide_true, decide_false, Bool.true_and, Bool.false_and, Bool.true_or]
    · have e8 := e86 (by omega)
      unfold Md_isSo
      by_cases x : v < T 0 6 <;> by_cases y : v = t <;> simp (disch := omega) only [pl_0, pl_1, pl_2, pl_3, pl_4, pl_5, pl_6, pl_7, pl_8, pl_9, pl_10, pl_11, pl_12, pl_13, pl_14, pl_15, pl_16, pl_17, pl_18, pl_19, pl_20, pl_21, pl_30, pl_40, pl_50, pl_51, pl_60, pl_70, pl_71, pl_99, pl_100, pl_160, pl_240, pl_256, pl_300, pl_999, pl_1000, pl_1280, pl_9999, pl_10000, pu_neg, pu_nn, pu_le, pu_lt, pu_eq, pu_cl, pu_in, pu_g, ↓pu_let, ↓pu_bind, pu_m1, pu_add, pu_mul, Nat.not_lt_zero, if_false, if_true, Nat.zero_le, pu_d2, pu_d100, pu_em1, ↓reduceIte, Nat.reduceEqDiff, Nat.reduceLT, Nat.reduceLeDiff, Nat.reduceAdd, Nat.reduceMul, Nat.reduceSub, not_true_eq_false, not_false_eq_true, and_true, true_and, and_false, false_and, or_true, true_or, or_false, false_or, Nat.lt_irrefl, Nat.le_refl, Nat.add_zero, Bool.false_eq_true, ↓pu_gI, nd_le, nd_leT, nd_lt, nd_ltT, nd_eq, nd_eqT, e26, kc, e8, x, y, ne_eq, decide_true, decide_false, Bool.true_and, Bool.false_and, Bool.false_or, Bool.and_true, Bool.and_false, Nat.reduceEqDiff]
  · have eo : okS T 4 i t v = decide (v ≤ 99) := rfl
    rw [eo]
    unfold Md_isSo
    by_cases x : v ≤ 99 <;> simp (disch := omega) only [pl_0, pl_1, pl_2, pl_3, pl_4, pl_5, pl_6, pl_7, pl_8, pl_9, pl_10, pl_11, pl_12, pl_13, pl_14, pl_15, pl_16, pl_17, pl_18, pl_19, pl_20, pl_21, pl_30, pl_40, pl_50, pl_51, pl_60, pl_70, pl_71, pl_99, pl_100, pl_160, pl_240, pl_256, pl_300, pl_999, pl_1000, pl_1280, pl_9999, pl_10000, pu_neg, pu_nn, pu_le, pu_lt, pu_eq, pu_cl, pu_in, pu_g, ↓pu_let, ↓pu_bind, pu_m1, pu_add, pu_mul, Nat.not_lt_zero, if_false, if_true, Nat.zero_le, pu_d2, pu_d100, pu_em1, ↓reduceIte, Nat.reduceEqDiff, Nat.reduceLT, Nat.reduceLeDiff, Nat.reduceAdd, Nat.reduceMul, Nat.reduceSub, not_true_eq_false, not_false_eq_true, and_true, true_and, and_false, false_and, or_true, true_or, or_false, false_or, Nat.lt_irrefl, Nat.le_refl, Nat.add_zero, Bool.false_eq_true, ↓pu_gI, nd_le, nd_leT, nd_lt, nd_ltT, nd_eq, nd_eqT, e26, x, decide_true, decide_false]
  · have eo : okS T 5 i t v = true := rfl
    rw [eo]
    unfold Md_isSo
    simp (disch := omega) only [pl_0, pl_1, pl_2, pl_3, pl_4, pl_5, pl_6, pl_7, pl_8, pl_9, pl_10, pl_11, pl_12, pl_13, pl_14, pl_15, pl_16, pl_17, pl_18, pl_19, pl_20, pl_21, pl_30, pl_40, pl_50, pl_51, pl_60, pl_70, pl_71, pl_99, pl_100, pl_160, pl_240, pl_256, pl_300, pl_999, pl_1000, pl_1280, pl_9999, pl_10000, pu_neg, pu_nn, pu_le, pu_lt, pu_eq, pu_cl, pu_in, pu_g, ↓pu_let, ↓pu_bind, pu_m1, pu_add, pu_mul, Nat.not_lt_zero, if_false, if_true, Nat.zero_le, pu_d2, pu_d100, pu_em1, ↓reduceIte, Nat.reduceEqDiff, Nat.reduceLT, Nat.reduceLeDiff, Nat.reduceAdd, Nat.reduceMul, Nat.reduceSub, not_true_eq_false, not_false_eq_true, and_true, true_and, and_false, false_and, or_true, true_or, or_false, false_or, Nat.lt_irrefl, Nat.le_refl, Nat.add_zero, Bool.false_eq_true, ↓pu_gI, nd_le, nd_leT, nd_lt, nd_ltT, nd_eq, nd_eqT, e26]
  · have eo : okS T 6 i t v = (decide (v < T 0 6) && decide (T 6 v = 0)) := rfl
    rw [eo]
    unfold Md_isSo
    by_cases x : v < T 0 6
    · have k77 := hM.a6 (show v < 8 by omega)
      have h3 := (hI.2.2.2.2 v (by omega)).2.2.2.2.2
      by_cases y : T 6 v = 0 <;> simp (disch := omega) only [pl_0, pl_1, pl_2, pl_3, pl_4, pl_5, pl_6, pl_7, pl_8, pl_9, pl_10, pl_11, pl_12, pl_13, pl_14, pl_15, pl_16, pl_17, pl_18, pl_19, pl_20, pl_21, pl_30, pl_40, pl_50, pl_51, pl_60, pl_70, pl_71, pl_99, pl_100, pl_160, pl_240, pl_256, pl_300, pl_999, pl_1000, pl_1280, pl_9999, pl_10000, pu_neg, pu_nn, pu_le, pu_lt, pu_eq, pu_cl, pu_in, pu_g, ↓pu_let, ↓pu_bind, pu_m1, pu_add, pu_mul, Nat.not_lt_zero, if_false, if_true, Nat.zero_le, pu_d2, pu_d100, pu_em1, ↓reduceIte, Nat.reduceEqDiff, Nat.reduceLT, Nat.reduceLeDiff, Nat.reduceAdd, Nat.reduceMul, Nat.reduceSub, not_true_eq_false, not_false_eq_true, and_true, true_and, and_false, false_and, or_true, true_or, or_false, false_or, Nat.lt_irrefl, Nat.le_refl, Nat.add_zero, Bool.false_eq_true, ↓pu_gI, nd_le, nd_leT, nd_lt, nd_ltT, nd_eq, nd_eqT, e26, kc, k77, x, y, decide_true, decide_false, Bool.true_and, Bool.false_and, Bool.and_true, Bool.and_false]
    · simp (disch := omega) only [pl_0, pl_1, pl_2, pl_3, pl_4, pl_5, pl_6, pl_7, pl_8, pl_9, pl_10, pl_11, pl_12, pl_13, pl_14, pl_15, pl_16, pl_17, pl_18, pl_19, pl_20, pl_21, pl_30, pl_40, pl_50, pl_51, pl_60, pl_70, pl_71, pl_99, pl_100, pl_160, pl_240, pl_256, pl_300, pl_999, pl_1000, pl_1280, pl_9999, pl_10000, pu_neg, pu_nn, pu_le, pu_lt, pu_eq, pu_cl, pu_in, pu_g, ↓pu_let, ↓pu_bind, pu_m1, pu_add, pu_mul, Nat.not_lt_zero, if_false, if_true, Nat.zero_le, pu_d2, pu_d100, pu_em1, ↓reduceIte, Nat.reduceEqDiff, Nat.reduceLT, Nat.reduceLeDiff, Nat.reduceAdd, Nat.reduceMul, Nat.reduceSub, not_true_eq_false, not_false_eq_true, and_true, true_and, and_false, false_and, or_true, true_or, or_false, false_or, Nat.lt_irrefl, Nat.le_refl, Nat.add_zero, Bool.false_eq_true, ↓pu_gI, nd_le, nd_leT, nd_lt, nd_ltT, nd_eq, nd_eqT, e26, kc, x, decide_true, decide_false, Bool.true_and, Bool.false_and, Bool.and_true, Bool.and_false]
  · have eo : okS T 7 i t v = (decide (v < T 0 6) && decide (T 6 v ≠ 3)) := rfl
    rw [eo]
    unfold Md_isSo
    by_cases x : v < T 0 6
    · have k77 := hM.a6 (show v < 8 by omega)
      have h3 := (hI.2.2.2.2 v (by omega)).2.2.2.2.2
      by_cases y : T 6 v = 3 <;> simp (disch := omega) only [pl_0, pl_1, pl_2, pl_3, pl_4, pl_5, pl_6, pl_7, pl_8, pl_9, pl_10, pl_11, pl_12, pl_13, pl_14, pl_15, pl_16, pl_17, pl_18, pl_19, pl_20, pl_21, pl_30, pl_40, pl_50, pl_51, pl_60, pl_70, pl_71, pl_99, pl_100, pl_160, pl_240, pl_256, pl_300, pl_999, pl_1000, pl_1280, pl_9999, pl_10000, pu_neg, pu_nn, pu_le, pu_lt, pu_eq, pu_cl, pu_in, pu_g, ↓pu_let, ↓pu_bind, pu_m1, pu_add, pu_mul, Nat.not_lt_zero, if_false, if_true, Nat.zero_le, pu_d2, pu_d100, pu_em1, ↓reduceIte, Nat.reduceEqDiff, Nat.reduceLT, Nat.reduceLeDiff, Nat.reduceAdd, Nat.reduceMul, Nat.reduceSub, not_true_eq_false, not_false_eq_true, and_true, true_and, and_false, false_and, or_true, true_or, or_false, false_or, Nat.lt_irrefl, Nat.le_refl, Nat.add_zero, Bool.false_eq_true, ↓pu_gI, nd_le, nd_leT, nd_lt, nd_ltT, nd_eq, nd_eqT, e26, kc, k77, x, y, ne_eq, decide_true, decide_false, Bool.true_and, Bool.false_and, Bool.and_true, Bool.and_false]
    · simp (disch := omega) only [pl_0, pl_1, pl_2, pl_3, pl_4, pl_5, pl_6, pl_7, pl_8, pl_9, pl_10, pl_11, pl_12, pl_13, pl_14, pl_15, pl_16, pl_17, pl_18, pl_19, pl_20, pl_21, pl_30, pl_40, pl_50, pl_51, pl_60, pl_70, pl_71, pl_99, pl_100, pl_160, pl_240, pl_256, pl_300, pl_999, pl_1000, pl_1280, pl_9999, pl_10000, pu_neg, pu_nn, pu_le, pu_lt, pu_eq, pu_cl, pu_in, pu_g, ↓pu_let, ↓pu_bind, pu_m1, pu_add, pu_mul, Nat.not_lt_zero, if_false, if_true, Nat.zero_le, pu_d2, pu_d100, pu_em1, ↓reduceIte, Nat.reduceEqDiff, Nat.reduceLT, Nat.reduceLeDiff, Nat.reduceAdd, Nat.reduceMul, Nat.reduceSub, not_true_eq_false, not_false_eq_true, and_true, true_and, and_false, false_and, or_true, true_or, or_false, false_or, Nat.lt_irrefl, Nat.le_refl, Nat.add_zero, Bool.false_eq_true, ↓pu_gI, nd_le, nd_leT, nd_lt, nd_ltT, nd_eq, nd_eqT, e26, kc, x, decide_true, decide_false, Bool.true_and, Bool.false_and, Bool.and_true, Bool.and_false]
end RDS
