/-! told numbers come true; months by draws: both sides -/
theorem bz0 : nm_bz (nI 0) = true := by decide +kernel
theorem bz1 : nm_bz (nI 1) = true := by decide +kernel
def comB (T : is_T) (v : Nat) : Bool := decide (v = 0) || (decide (100 ≤ v) && (if v / 100 = 1 then bidB T (v % 100) (price T (v % 100)) else (decide (v / 100 ≤ 4) && atB T (v / 100 - 2) (v % 100))))
def comT (T : is_T) (v : Nat) : is_T := if v = 0 then monT T else if v / 100 = 1 then bidT T (v % 100) (price T (v % 100)) else sufT T (v % 100) (v / 100 - 2)
theorem com_I {T : is_T} (hI : IslI T) {v : Nat} : IslI (comT T v) := by
  unfold comT
  split
  · exact mon_I hI
  · split
    · exact bid_I hI
    · exact suf_I hI
theorem com_6 (T : is_T) (v : Nat) : comT T v 0 6 = T 0 6 := by
  unfold comT
  split
  · exact mon_6 T
  · split
    · exact bid_6 T _ _
    · exact suf_6 T _ _
theorem com_bid {T : is_T} {v : Nat} (h1 : 100 ≤ v) (h2 : v / 100 = 1) : comB T v = bidB T (v % 100) (price T (v % 100)) := by
  unfold comB
  rw [if_pos h2]
  simp [h1, show v ≠ 0 by omega]
theorem com_suf {T : is_T} {v : Nat} (h1 : 100 ≤ v) (h2 : v / 100 ≠ 1) : comB T v = (decide (v / 100 ≤ 4) && atB T (v / 100 - 2) (v % 100)) := by
  unfold comB
  rw [if_neg h2]
  simp [h1, show v ≠ 0 by omega]
theorem com_lo {T : is_T} {v : Nat} (h1 : v ≠ 0) (h2 : ¬ 100 ≤ v) : comB T v = false := by
  unfold comB
  simp [h1, h2]
section ISP
variable {σ : nm_St} {o : Nat} {T : is_T}
theorem is_comes_neg {x : Int32} (hx : x < 0) : Is_comesTrue o x σ = some (nI 0, σ) := by
  unfold Is_comesTrue
  simp (disch := omega) only [pl_0, pl_1, pl_2, pl_3, pl_4, pl_5, pl_6, pl_7, pl_8, pl_9, pl_10, pl_11, pl_12, pl_13, pl_14, pl_15, pl_16, pl_17, pl_18, pl_19, pl_20, pl_21, pl_30, pl_40, pl_50, pl_51, pl_60, pl_70, pl_71, pl_99, pl_100, pl_160, pl_240, pl_256, pl_300, pl_999, pl_1000, pl_1280, pl_9999, pl_10000, pu_neg, pu_nn, pu_le, pu_lt, pu_eq, pu_cl, pu_in, pu_g, pu_let, pu_bind, pu_m1, pu_add, pu_mul, Nat.not_lt_zero, if_false, if_true, Nat.zero_le, pu_d2, pu_d100, pu_em1, reduceIte, Nat.reduceEqDiff, Nat.reduceLT, Nat.reduceLeDiff, Nat.reduceAdd, Nat.reduceMul, Nat.reduceSub, not_true_eq_false, not_false_eq_true, and_true, true_and, and_false, false_and, or_true, true_or, or_false, false_or, Nat.lt_irrefl, Nat.le_refl, Nat.add_zero, Bool.false_eq_true, ngl hx, nge hx, ngle hx, nggt hx, ngne hx]
theorem is_comes_f (h : IslR σ o T) (hI : IslI T) {v : Nat} (hv : v < 2147483648) (e : comB T v = false) : Is_comesTrue o (nI v) σ = some (nI 0, σ) := by
  have hc := hI.1
  have hmod : v - v / 100 * 100 = v % 100 := by omega
  have h0 : v ≠ 0 := by
    intro z
    rw [z] at e
    simp [comB] at e
  unfold Is_comesTrue
  by_cases h1 : 100 ≤ v
  · by_cases h2 : v / 100 = 1
    · rw [com_bid h1 h2] at e
      simp (disch := omega) only [pl_0, pl_1, pl_2, pl_3, pl_4, pl_5, pl_6, pl_7, pl_8, pl_9, pl_10, pl_11, pl_12, pl_13, pl_14, pl_15, pl_16, pl_17, pl_18, pl_19, pl_20, pl_21, pl_30, pl_40, pl_50, pl_51, pl_60, pl_70, pl_71, pl_99, pl_100, pl_160, pl_240, pl_256, pl_300, pl_999, pl_1000, pl_1280, pl_9999, pl_10000, pu_neg, pu_nn, pu_le, pu_lt, pu_eq, pu_cl, pu_in, pu_g, pu_let, pu_bind, pu_m1, pu_add, pu_mul, Nat.not_lt_zero, if_false, if_true, Nat.zero_le, pu_d2, pu_d100, pu_em1, reduceIte, Nat.reduceEqDiff, Nat.reduceLT, Nat.reduceLeDiff, Nat.reduceAdd, Nat.reduceMul, Nat.reduceSub, not_true_eq_false, not_false_eq_true, and_true, true_and, and_false, false_and, or_true, true_or, or_false, false_or, Nat.lt_irrefl, Nat.le_refl, Nat.add_zero, Bool.false_eq_true, decide_false, Bool.not_false, pk_div, pk_sub, hmod]
      rw [if_neg h0, if_pos h1, if_pos h2]
      by_cases hm : v % 100 < T 0 6
      · have hpl := price_le hI (show v % 100 < 8 by omega)
        rw [is_priceOf h hI hm]
        simp (disch := omega) only [pu_bind, is_takeBid_f h hI (show v % 100 < 2147483648 by omega) (show price T (v % 100) < 2147483648 by omega) e, bz0, pu_g]
      · rw [is_priceOf_n h hI (Or.inr (nI_le (by omega) (by omega)))]
        have e2 : bidB T (v % 100) 0 = false := by unfold bidB; rw [at_out (by omega)]; rfl
        simp (disch := omega) only [pu_bind, is_takeBid_f h hI (show v % 100 < 2147483648 by omega) (show 0 < 2147483648 by omega) e2, bz0, pu_g]
    · rw [com_suf h1 h2] at e
      simp (disch := omega) only [pl_0, pl_1, pl_2, pl_3, pl_4, pl_5, pl_6, pl_7, pl_8, pl_9, pl_10, pl_11, pl_12, pl_13, pl_14, pl_15, pl_16, pl_17, pl_18, pl_19, pl_20, pl_21, pl_30, pl_40, pl_50, pl_51, pl_60, pl_70, pl_71, pl_99, pl_100, pl_160, pl_240, pl_256, pl_300, pl_999, pl_1000, pl_1280, pl_9999, pl_10000, pu_neg, pu_nn, pu_le, pu_lt, pu_eq, pu_cl, pu_in, pu_g, pu_let, pu_bind, pu_m1, pu_add, pu_mul, Nat.not_lt_zero, if_false, if_true, Nat.zero_le, pu_d2, pu_d100, pu_em1, reduceIte, Nat.reduceEqDiff, Nat.reduceLT, Nat.reduceLeDiff, Nat.reduceAdd, Nat.reduceMul, Nat.reduceSub, not_true_eq_false, not_false_eq_true, and_true, true_and, and_false, false_and, or_true, true_or, or_false, false_or, Nat.lt_irrefl, Nat.le_refl, Nat.add_zero, Bool.false_eq_true, decide_false, Bool.not_false, pk_div, pk_sub, hmod]
      rw [if_neg h0, if_pos h1, if_neg h2]
      by_cases h4 : v / 100 ≤ 4
      · have e3 : atB T (v / 100 - 2) (v % 100) = false := by simpa [h4] using e
        simp (disch := omega) only [pu_bind, is_suffer_f h hI (show v % 100 < 2147483648 by omega) (show v / 100 - 2 < 3 by omega) e3, bz0, pu_g]
      · simp (disch := omega) only [pu_bind, is_suffer_n h (show 3 ≤ v / 100 - 2 by omega) (show v / 100 - 2 < 2147483648 by omega), bz0, pu_g]
  · simp (disch := omega) only [pl_0, pl_1, pl_2, pl_3, pl_4, pl_5, pl_6, pl_7, pl_8, pl_9, pl_10, pl_11, pl_12, pl_13, pl_14, pl_15, pl_16, pl_17, pl_18, pl_19, pl_20, pl_21, pl_30, pl_40, pl_50, pl_51, pl_60, pl_70, pl_71, pl_99, pl_100, pl_160, pl_240, pl_256, pl_300, pl_999, pl_1000, pl_1280, pl_9999, pl_10000, pu_neg, pu_nn, pu_le, pu_lt, pu_eq, pu_cl, pu_in, pu_g, pu_let, pu_bind, pu_m1, pu_add, pu_mul, Nat.not_lt_zero, if_false, if_true, Nat.zero_le, pu_d2, pu_d100, pu_em1, reduceIte, Nat.reduceEqDiff, Nat.reduceLT, Nat.reduceLeDiff, Nat.reduceAdd, Nat.reduceMul, Nat.reduceSub, not_true_eq_false, not_false_eq_true, and_true, true_and, and_false, false_and, or_true, true_or, or_false, false_or, Nat.lt_irrefl, Nat.le_refl, Nat.add_zero, Bool.false_eq_true]
    rw [if_neg h0, if_neg h1]
theorem is_comes_t (h : IslR σ o T) (hI : IslI T) {v : Nat} (hv : v < 2147483648) (e : comB T v = true) : ∃ τ, Is_comesTrue o (nI v) σ = some (nI 1, τ) ∧ IslU σ o τ (comT T v) := by
  have hc := hI.1
  have hmod : v - v / 100 * 100 = v % 100 := by omega
  unfold Is_comesTrue comT
  by_cases h0 : v = 0
  · obtain ⟨τ, e1, u⟩ := is_passMonth h hI
    simp (disch := omega) only [pl_0, pl_1, pl_2, pl_3, pl_4, pl_5, pl_6, pl_7, pl_8, pl_9, pl_10, pl_11, pl_12, pl_13, pl_14, pl_15, pl_16, pl_17, pl_18, pl_19, pl_20, pl_21, pl_30, pl_40, pl_50, pl_51, pl_60, pl_70, pl_71, pl_99, pl_100, pl_160, pl_240, pl_256, pl_300, pl_999, pl_1000, pl_1280, pl_9999, pl_10000, pu_neg, pu_nn, pu_le, pu_lt, pu_eq, pu_cl, pu_in, pu_g, pu_let, pu_bind, pu_m1, pu_add, pu_mul, Nat.not_lt_zero, if_false, if_true, Nat.zero_le, pu_d2, pu_d100, pu_em1, reduceIte, Nat.reduceEqDiff, Nat.reduceLT, Nat.reduceLeDiff, Nat.reduceAdd, Nat.reduceMul, Nat.reduceSub, not_true_eq_false, not_false_eq_true, and_true, true_and, and_false, false_and, or_true, true_or, or_false, false_or, Nat.lt_irrefl, Nat.le_refl, Nat.add_zero, Bool.false_eq_true, e1, h0]
    exact ⟨τ, rfl, u⟩
  · by_cases h1 : 100 ≤ v
    · by_cases h2 : v / 100 = 1
      · rw [com_bid h1 h2] at e
        have hm : v % 100 < T 0 6 := at_lt (q := 0) (by unfold bidB at e; simp only [Bool.and_eq_true] at e; exact e.1)
        have hpl := price_le hI (show v % 100 < 8 by omega)
        obtain ⟨τ, e1, u⟩ := is_takeBid h hI (show price T (v % 100) < 2147483648 by omega) e
        simp (disch := omega) only [pl_0, pl_1, pl_2, pl_3, pl_4, pl_5, pl_6, pl_7, pl_8, pl_9, pl_10, pl_11, pl_12, pl_13, pl_14, pl_15, pl_16, pl_17, pl_18, pl_19, pl_20, pl_21, pl_30, pl_40, pl_50, pl_51, pl_60, pl_70, pl_71, pl_99, pl_100, pl_160, pl_240, pl_256, pl_300, pl_999, pl_1000, pl_1280, pl_9999, pl_10000, pu_neg, pu_nn, pu_le, pu_lt, pu_eq, pu_cl, pu_in, pu_g, pu_let, pu_bind, pu_m1, pu_add, pu_mul, Nat.not_lt_zero, if_false, if_true, Nat.zero_le, pu_d2, pu_d100, pu_em1, reduceIte, Nat.reduceEqDiff, Nat.reduceLT, Nat.reduceLeDiff, Nat.reduceAdd, Nat.reduceMul, Nat.reduceSub, not_true_eq_false, not_false_eq_true, and_true, true_and, and_false, false_and, or_true, true_or, or_false, false_or, Nat.lt_irrefl, Nat.le_refl, Nat.add_zero, Bool.false_eq_true, decide_false, Bool.not_false, pk_div, pk_sub, hmod]
        rw [if_neg h0, if_pos h1, if_pos h2, is_priceOf h hI hm, if_neg h0, if_pos h2]
        simp only [pu_bind, e1, bz1, pu_g]
        exact ⟨τ, rfl, u⟩
      · rw [com_suf h1 h2] at e
        simp only [Bool.and_eq_true, decide_eq_true_eq] at e
        obtain ⟨τ, e1, u⟩ := is_suffer h hI (show v / 100 - 2 < 3 by omega) e.2
        simp (disch := omega) only [pl_0, pl_1, pl_2, pl_3, pl_4, pl_5, pl_6, pl_7, pl_8, pl_9, pl_10, pl_11, pl_12, pl_13, pl_14, pl_15, pl_16, pl_17, pl_18, pl_19, pl_20, pl_21, pl_30, pl_40, pl_50, pl_51, pl_60, pl_70, pl_71, pl_99, pl_100, pl_160, pl_240, pl_256, pl_300, pl_999, pl_1000, pl_1280, pl_9999, pl_10000, pu_neg, pu_nn, pu_le, pu_lt, pu_eq, pu_cl, pu_in, pu_g, pu_let, pu_bind, pu_m1, pu_add, pu_mul, Nat.not_lt_zero, if_false, if_true, Nat.zero_le, pu_d2, pu_d100, pu_em1, reduceIte, Nat.reduceEqDiff, Nat.reduceLT, Nat.reduceLeDiff, Nat.reduceAdd, Nat.reduceMul, Nat.reduceSub, not_true_eq_false, not_false_eq_true, and_true, true_and, and_false, false_and, or_true, true_or, or_false, false_or, Nat.lt_irrefl, Nat.le_refl, Nat.add_zero, Bool.false_eq_true, decide_false, Bool.not_false, pk_div, pk_sub, hmod]
        rw [if_neg h0, if_pos h1, if_neg h2, if_neg h0, if_neg h2]
        simp only [pu_bind, e1, bz1, pu_g]
        exact ⟨τ, rfl, u⟩
    · rw [com_lo h0 h1] at e
      cases e
theorem md_can_neg {x : Int32} (hx : x < 0) : Md_can x σ = some (nI 0, σ) := by
  unfold Md_can
  simp (disch := omega) only [pl_0, pl_1, pl_2, pl_3, pl_4, pl_5, pl_6, pl_7, pl_8, pl_9, pl_10, pl_11, pl_12, pl_13, pl_14, pl_15, pl_16, pl_17, pl_18, pl_19, pl_20, pl_21, pl_30, pl_40, pl_50, pl_51, pl_60, pl_70, pl_71, pl_99, pl_100, pl_160, pl_240, pl_256, pl_300, pl_999, pl_1000, pl_1280, pl_9999, pl_10000, pu_neg, pu_nn, pu_le, pu_lt, pu_eq, pu_cl, pu_in, pu_g, pu_let, pu_bind, pu_m1, pu_add, pu_mul, Nat.not_lt_zero, if_false, if_true, Nat.zero_le, pu_d2, pu_d100, pu_em1, reduceIte, Nat.reduceEqDiff, Nat.reduceLT, Nat.reduceLeDiff, Nat.reduceAdd, Nat.reduceMul, Nat.reduceSub, not_true_eq_false, not_false_eq_true, and_true, true_and, and_false, false_and, or_true, true_or, or_false, false_or, Nat.lt_irrefl, Nat.le_refl, Nat.add_zero, Bool.false_eq_true, decide_false, Bool.not_false, ngl hx, nge hx, ngle hx, nggt hx, ngne hx]
theorem md_can (h : MdR σ T) (hI : IslI T) {v : Nat} (hv : v < 2147483648) : Md_can (nI v) σ = some (nI (if comB T v then 1 else 0), σ) := by
  have hc := hI.1
  have hmod : v - v / 100 * 100 = v % 100 := by omega
  unfold Md_can
  by_cases h0 : v = 0
  · subst h0
    simp (disch := omega) only [pl_0, pl_1, pl_2, pl_3, pl_4, pl_5, pl_6, pl_7, pl_8, pl_9, pl_10, pl_11, pl_12, pl_13, pl_14, pl_15, pl_16, pl_17, pl_18, pl_19, pl_20, pl_21, pl_30, pl_40, pl_50, pl_51, pl_60, pl_70, pl_71, pl_99, pl_100, pl_160, pl_240, pl_256, pl_300, pl_999, pl_1000, pl_1280, pl_9999, pl_10000, pu_neg, pu_nn, pu_le, pu_lt, pu_eq, pu_cl, pu_in, pu_g, pu_let, pu_bind, pu_m1, pu_add, pu_mul, Nat.not_lt_zero, if_false, if_true, Nat.zero_le, pu_d2, pu_d100, pu_em1, reduceIte, Nat.reduceEqDiff, Nat.reduceLT, Nat.reduceLeDiff, Nat.reduceAdd, Nat.reduceMul, Nat.reduceSub, not_true_eq_false, not_false_eq_true, and_true, true_and, and_false, false_and, or_true, true_or, or_false, false_or, Nat.lt_irrefl, Nat.le_refl, Nat.add_zero, Bool.false_eq_true, comB, decide_true, Bool.true_or]
  · by_cases h1 : 100 ≤ v
    · simp (disch := omega) only [pl_0, pl_1, pl_2, pl_3, pl_4, pl_5, pl_6, pl_7, pl_8, pl_9, pl_10, pl_11, pl_12, pl_13, pl_14, pl_15, pl_16, pl_17, pl_18, pl_19, pl_20, pl_21, pl_30, pl_40, pl_50, pl_51, pl_60, pl_70, pl_71, pl_99, pl_100, pl_160, pl_240, pl_256, pl_300, pl_999, pl_1000, pl_1280, pl_9999, pl_10000, pu_neg, pu_nn, pu_le, pu_lt, pu_eq, pu_cl, pu_in, pu_g, pu_let, pu_bind, pu_m1, pu_add, pu_mul, Nat.not_lt_zero, if_false, if_true, Nat.zero_le, pu_d2, pu_d100, pu_em1, reduceIte, Nat.reduceEqDiff, Nat.reduceLT, Nat.reduceLeDiff, Nat.reduceAdd, Nat.reduceMul, Nat.reduceSub, not_true_eq_false, not_false_eq_true, and_true, true_and, and_false, false_and, or_true, true_or, or_false, false_or, Nat.lt_irrefl, Nat.le_refl, Nat.add_zero, Bool.false_eq_true, decide_false, Bool.not_false, pk_div, pk_sub, hmod]
      rw [if_neg h0, if_neg (by omega)]
      by_cases h4 : 4 < v / 100
      · rw [if_pos h4, com_suf h1 (by omega)]
        simp [show ¬ v / 100 ≤ 4 by omega]
      · rw [if_neg h4]
        by_cases hm : v % 100 < T 0 6
        · have h6 := (hI.2.2.2.2 (v % 100) (by omega)).2.2.2.2.2
          have hpl := price_le hI (show v % 100 < 8 by omega)
          have hq := hI.2.2.2.1
          rw [md_isMaker_v h hI hm]
          by_cases h2 : v / 100 = 1
          · rw [com_bid h1 h2]
            have ha : atB T 0 (v % 100) = decide (T 6 (v % 100) = 0) := by unfold atB; simp [hm]
            simp (disch := omega) only [pl_0, pl_1, pl_2, pl_3, pl_4, pl_5, pl_6, pl_7, pl_8, pl_9, pl_10, pl_11, pl_12, pl_13, pl_14, pl_15, pl_16, pl_17, pl_18, pl_19, pl_20, pl_21, pl_30, pl_40, pl_50, pl_51, pl_60, pl_70, pl_71, pl_99, pl_100, pl_160, pl_240, pl_256, pl_300, pl_999, pl_1000, pl_1280, pl_9999, pl_10000, pu_neg, pu_nn, pu_le, pu_lt, pu_eq, pu_cl, pu_in, pu_g, pu_let, pu_bind, pu_m1, pu_add, pu_mul, Nat.not_lt_zero, if_false, if_true, Nat.zero_le, pu_d2, pu_d100, pu_em1, reduceIte, Nat.reduceEqDiff, Nat.reduceLT, Nat.reduceLeDiff, Nat.reduceAdd, Nat.reduceMul, Nat.reduceSub, not_true_eq_false, not_false_eq_true, and_true, true_and, and_false, false_and, or_true, true_or, or_false, false_or, Nat.lt_irrefl, Nat.le_refl, Nat.add_zero, Bool.false_eq_true, h.a6, md_price h hI (show v % 100 < 8 by omega), h.q, bidB, ha]
            rw [if_pos h2]
            by_cases z : T 6 (v % 100) = 0
            · by_cases z2 : T 0 9 < price T (v % 100)
              · simp [z, z2, Nat.not_le.mpr z2]
              · simp [z, z2, show price T (v % 100) ≤ T 0 9 by omega]
            · simp [z]
          · rw [com_suf h1 h2]
            simp (disch := omega) only [pl_0, pl_1, pl_2, pl_3, pl_4, pl_5, pl_6, pl_7, pl_8, pl_9, pl_10, pl_11, pl_12, pl_13, pl_14, pl_15, pl_16, pl_17, pl_18, pl_19, pl_20, pl_21, pl_30, pl_40, pl_50, pl_51, pl_60, pl_70, pl_71, pl_99, pl_100, pl_160, pl_240, pl_256, pl_300, pl_999, pl_1000, pl_1280, pl_9999, pl_10000, pu_neg, pu_nn, pu_le, pu_lt, pu_eq, pu_cl, pu_in, pu_g, pu_let, pu_bind, pu_m1, pu_add, pu_mul, Nat.not_lt_zero, if_false, if_true, Nat.zero_le, pu_d2, pu_d100, pu_em1, reduceIte, Nat.reduceEqDiff, Nat.reduceLT, Nat.reduceLeDiff, Nat.reduceAdd, Nat.reduceMul, Nat.reduceSub, not_true_eq_false, not_false_eq_true, and_true, true_and, and_false, false_and, or_true, true_or, or_false, false_or, Nat.lt_irrefl, Nat.le_refl, Nat.add_zero, Bool.false_eq_true]
            rw [if_neg h2, md_mayDeed h hI hm (by omega)]
            cases atB T (v / 100 - 2) (v % 100) <;> simp [pu_g, bz0, bz1, show v / 100 ≤ 4 by omega]
        · rw [md_isMaker_n h (Or.inr (nI_le (by omega) (by omega)))]
          have e : comB T v = false := by
            by_cases h2 : v / 100 = 1
            · rw [com_bid h1 h2]; unfold bidB; rw [at_out (by omega)]; rfl
            · rw [com_suf h1 h2, at_out (by omega), Bool.and_false]
          rw [e]
          simp (disch := omega) only [pl_0, pl_1, pl_2, pl_3, pl_4, pl_5, pl_6, pl_7, pl_8, pl_9, pl_10, pl_11, pl_12, pl_13, pl_14, pl_15, pl_16, pl_17, pl_18, pl_19, pl_20, pl_21, pl_30, pl_40, pl_50, pl_51, pl_60, pl_70, pl_71, pl_99, pl_100, pl_160, pl_240, pl_256, pl_300, pl_999, pl_1000, pl_1280, pl_9999, pl_10000, pu_neg, pu_nn, pu_le, pu_lt, pu_eq, pu_cl, pu_in, pu_g, pu_let, pu_bind, pu_m1, pu_add, pu_mul, Nat.not_lt_zero, if_false, if_true, Nat.zero_le, pu_d2, pu_d100, pu_em1, reduceIte, Nat.reduceEqDiff, Nat.reduceLT, Nat.reduceLeDiff, Nat.reduceAdd, Nat.reduceMul, Nat.reduceSub, not_true_eq_false, not_false_eq_true, and_true, true_and, and_false, false_and, or_true, true_or, or_false, false_or, Nat.lt_irrefl, Nat.le_refl, Nat.add_zero, Bool.false_eq_true]
    · rw [com_lo h0 h1]
      simp (disch := omega) only [pl_0, pl_1, pl_2, pl_3, pl_4, pl_5, pl_6, pl_7, pl_8, pl_9, pl_10, pl_11, pl_12, pl_13, pl_14, pl_15, pl_16, pl_17, pl_18, pl_19, pl_20, pl_21, pl_30, pl_40, pl_50, pl_51, pl_60, pl_70, pl_71, pl_99, pl_100, pl_160, pl_240, pl_256, pl_300, pl_999, pl_1000, pl_1280, pl_9999, pl_10000, pu_neg, pu_nn, pu_le, pu_lt, pu_eq, pu_cl, pu_in, pu_g, pu_let, pu_bind, pu_m1, pu_add, pu_mul, Nat.not_lt_zero, if_false, if_true, Nat.zero_le, pu_d2, pu_d100, pu_em1, reduceIte, Nat.reduceEqDiff, Nat.reduceLT, Nat.reduceLeDiff, Nat.reduceAdd, Nat.reduceMul, Nat.reduceSub, not_true_eq_false, not_false_eq_true, and_true, true_and, and_false, false_and, or_true, true_or, or_false, false_or, Nat.lt_irrefl, Nat.le_refl, Nat.add_zero, Bool.false_eq_true, decide_false, Bool.not_false, pk_div, pk_sub, hmod]
      rw [if_neg h0, if_pos (by omega)]
theorem md_comes (h : MdR σ T) (hI : IslI T) {v : Nat} (hv : v < 2147483648) (e : comB T v = true) : ∃ τ, Md_comes (nI v) σ = some ((), τ) ∧ MdU σ τ (comT T v) := by
  have hc := hI.1
  have hmod : v - v / 100 * 100 = v % 100 := by omega
  unfold Md_comes comT
  by_cases h0 : v = 0
  · obtain ⟨τ, e1, u⟩ := md_passes h hI
    simp (disch := omega) only [pl_0, pl_1, pl_2, pl_3, pl_4, pl_5, pl_6, pl_7, pl_8, pl_9, pl_10, pl_11, pl_12, pl_13, pl_14, pl_15, pl_16, pl_17, pl_18, pl_19, pl_20, pl_21, pl_30, pl_40, pl_50, pl_51, pl_60, pl_70, pl_71, pl_99, pl_100, pl_160, pl_240, pl_256, pl_300, pl_999, pl_1000, pl_1280, pl_9999, pl_10000, pu_neg, pu_nn, pu_le, pu_lt, pu_eq, pu_cl, pu_in, pu_g, pu_let, pu_bind, pu_m1, pu_add, pu_mul, Nat.not_lt_zero, if_false, if_true, Nat.zero_le, pu_d2, pu_d100, pu_em1, reduceIte, Nat.reduceEqDiff, Nat.reduceLT, Nat.reduceLeDiff, Nat.reduceAdd, Nat.reduceMul, Nat.reduceSub, not_true_eq_false, not_false_eq_true, and_true, true_and, and_false, false_and, or_true, true_or, or_false, false_or, Nat.lt_irrefl, Nat.le_refl, Nat.add_zero, Bool.false_eq_true, decide_false, Bool.not_false, e1, h0]
    exact ⟨τ, rfl, u⟩
  · by_cases h1 : 100 ≤ v
    · by_cases h2 : v / 100 = 1
      · rw [com_bid h1 h2] at e
        unfold bidB at e
        simp only [Bool.and_eq_true, decide_eq_true_eq] at e
        have hm := at_lt e.1
        have hpl := price_le hI (show v % 100 < 8 by omega)
        simp (disch := omega) only [pl_0, pl_1, pl_2, pl_3, pl_4, pl_5, pl_6, pl_7, pl_8, pl_9, pl_10, pl_11, pl_12, pl_13, pl_14, pl_15, pl_16, pl_17, pl_18, pl_19, pl_20, pl_21, pl_30, pl_40, pl_50, pl_51, pl_60, pl_70, pl_71, pl_99, pl_100, pl_160, pl_240, pl_256, pl_300, pl_999, pl_1000, pl_1280, pl_9999, pl_10000, pu_neg, pu_nn, pu_le, pu_lt, pu_eq, pu_cl, pu_in, pu_g, pu_let, pu_bind, pu_m1, pu_add, pu_mul, Nat.not_lt_zero, if_false, if_true, Nat.zero_le, pu_d2, pu_d100, pu_em1, reduceIte, Nat.reduceEqDiff, Nat.reduceLT, Nat.reduceLeDiff, Nat.reduceAdd, Nat.reduceMul, Nat.reduceSub, not_true_eq_false, not_false_eq_true, and_true, true_and, and_false, false_and, or_true, true_or, or_false, false_or, Nat.lt_irrefl, Nat.le_refl, Nat.add_zero, Bool.false_eq_true, decide_false, Bool.not_false, pk_div, pk_sub, hmod, md_price h hI (show v % 100 < 8 by omega), h.q, pk_sub e.2.1]
        rw [if_neg h0, if_pos h2, if_neg h0, if_pos h2]
        refine ⟨_, rfl, ?_⟩
        unfold bidT
        have := ((MdU.rf h).up0 (j := 3) (T 0 9 - price T (v % 100)) (by omega)).up (r := 6) (j := v % 100) 1 (by omega) (by omega) (by omega)
        have ec : nm_up (nm_up T 6 (v % 100) 1) 0 9 (T 0 9 - price T (v % 100)) = nm_up (nm_up T 0 (6 + 3) (T 0 9 - price T (v % 100))) 6 (v % 100) 1 := by
          funext r j
          simp only [up_at]
          by_cases a : r = 0 ∧ j = 9
          · rw [if_pos a, if_neg (by omega), if_pos a]
          · rw [if_neg a, if_neg (show ¬ (r = 0 ∧ j = 6 + 3) by omega)]
        rw [ec]
        exact this
      · rw [com_suf h1 h2] at e
        simp only [Bool.and_eq_true, decide_eq_true_eq] at e
        obtain ⟨τ, e1, u⟩ := md_deeds h hI (at_lt e.2) (show v / 100 - 2 < 3 by omega)
        simp (disch := omega) only [pl_0, pl_1, pl_2, pl_3, pl_4, pl_5, pl_6, pl_7, pl_8, pl_9, pl_10, pl_11, pl_12, pl_13, pl_14, pl_15, pl_16, pl_17, pl_18, pl_19, pl_20, pl_21, pl_30, pl_40, pl_50, pl_51, pl_60, pl_70, pl_71, pl_99, pl_100, pl_160, pl_240, pl_256, pl_300, pl_999, pl_1000, pl_1280, pl_9999, pl_10000, pu_neg, pu_nn, pu_le, pu_lt, pu_eq, pu_cl, pu_in, pu_g, pu_let, pu_bind, pu_m1, pu_add, pu_mul, Nat.not_lt_zero, if_false, if_true, Nat.zero_le, pu_d2, pu_d100, pu_em1, reduceIte, Nat.reduceEqDiff, Nat.reduceLT, Nat.reduceLeDiff, Nat.reduceAdd, Nat.reduceMul, Nat.reduceSub, not_true_eq_false, not_false_eq_true, and_true, true_and, and_false, false_and, or_true, true_or, or_false, false_or, Nat.lt_irrefl, Nat.le_refl, Nat.add_zero, Bool.false_eq_true, decide_false, Bool.not_false, pk_div, pk_sub, hmod]
        rw [if_neg h0, if_neg h2, if_neg h0, if_neg h2]
        simp only [pu_bind, e1]
        exact ⟨τ, rfl, u⟩
    · rw [com_lo h0 h1] at e
      cases e
end ISP
/-! a month by draws -/
def yrD (T : is_T) : Nat := drN (drT T 0 11) (T 0 6)
def yrB (T : is_T) : is_T := drT (drT T)
def yrA (T : is_T) : is_T := if drN (T 0 11) 4 = 0 then (if bidB (yrB T) (yrD T) (price (yrB T) (yrD T)) then bidT (yrB T) (yrD T) (price (yrB T) (yrD T)) else yrB T) else if drN (T 0 11) 4 = 1 then (senS (drT T) 8).2 else if drN (T 0 11) 4 = 2 then (if atB (yrB T) 1 (yrD T) then sufT (yrB T) (yrD T) 1 else yrB T) else drT T
def yrT (T : is_T) : is_T := monT (yrA T)
def yrS (T : is_T) : Nat → Nat × is_T
  | 0 => (0, T)
  | n + 1 => ((yrS T n).1 + madeN (yrT (yrS T n).2) (atB (yrT (yrS T n).2) 1), yrT (yrS T n).2)
theorem yrA_I {T : is_T} (hI : IslI T) : IslI (yrA T) ∧ yrA T 0 6 = T 0 6 := by
  have d1 := dr_I hI
  have d2 := dr_I d1
  unfold yrA
  split
  · split
    · exact ⟨bid_I d2, by rw [bid_6]; unfold yrB; rw [dr_6, dr_6]⟩
    · exact ⟨d2, by unfold yrB; rw [dr_6, dr_6]⟩
  · split
    · exact ⟨(sen_I d1 8).1, by rw [(sen_I d1 8).2, dr_6]⟩
    · split
      · split
        · exact ⟨suf_I d2, by rw [suf_6]; unfold yrB; rw [dr_6, dr_6]⟩
        · exact ⟨d2, by unfold yrB; rw [dr_6, dr_6]⟩
      · exact ⟨d1, dr_6 T⟩
theorem yrT_I {T : is_T} (hI : IslI T) : IslI (yrT T) ∧ yrT T 0 6 = T 0 6 := ⟨mon_I (yrA_I hI).1, (mon_6 _).trans (yrA_I hI).2⟩
theorem yrS_I {T : is_T} (hI : IslI T) : ∀ n, IslI (yrS T n).2 ∧ (yrS T n).2 0 6 = T 0 6 := by
  intro n
  induction n with
  | zero => exact ⟨hI, rfl⟩
  | succ n ih => exact ⟨(yrT_I ih.1).1, (yrT_I ih.1).2.trans ih.2⟩
theorem madeN_le (T : is_T) (f : Nat → Bool) : madeN T f ≤ 1 := by
  unfold madeN
  split <;> omega
theorem yrS_le (T : is_T) : ∀ n, (yrS T n).1 ≤ n := by
  intro n
  induction n with
  | zero => exact Nat.le_refl _
  | succ n ih =>
    have := madeN_le (yrT (yrS T n).2) (atB (yrT (yrS T n).2) 1)
    show (yrS T n).1 + _ ≤ _
    omega
section ISQ
variable {σ : nm_St} {o : Nat} {T : is_T}
theorem is_yr (h : IslR σ o T) (hI : IslI T) (h0 : 0 < T 0 6) : ∃ τ, Is_passMonthByDraws o σ = some ((), τ) ∧ IslU σ o τ (yrT T) := by
  have hc := hI.1
  have d1 := dr_I hI
  have d2 := dr_I d1
  obtain ⟨ρ, e1, u1⟩ := is_drawN h (show 0 < 4 by omega) (by omega)
  have hd := drN_lt (T 0 11) (show 0 < 4 by omega)
  have k6 : ρ.1 o 6 = nI (T 0 6) := by rw [u1.1.c, dr_6]
  obtain ⟨ρ2, e2, u2⟩ := is_drawN u1.1 (p := T 0 6) h0 (by omega)
  have hd2 : yrD T < T 0 6 := drN_lt (drT T 0 11) h0
  have hd3 : yrD T < yrB T 0 6 := by unfold yrB; rw [dr_6, dr_6]; exact hd2
  have u12 := u1.tr u2
  have fin : ∀ {A : is_T} {ρ : nm_St}, IslI A → IslU σ o ρ A → ∃ τ, Is_passMonth o ρ = some (nI (monC A), τ) ∧ IslU σ o τ (monT A) := by
    intro A ρ hA hu
    obtain ⟨τ, e, u⟩ := is_passMonth hu.1 hA
    exact ⟨τ, e, hu.tr u⟩
  unfold Is_passMonthByDraws yrT yrA
  simp (disch := omega) only [pl_0, pl_1, pl_2, pl_3, pl_4, pl_5, pl_6, pl_7, pl_8, pl_9, pl_10, pl_11, pl_12, pl_13, pl_14, pl_15, pl_16, pl_17, pl_18, pl_19, pl_20, pl_21, pl_30, pl_40, pl_50, pl_51, pl_60, pl_70, pl_71, pl_99, pl_100, pl_160, pl_240, pl_256, pl_300, pl_999, pl_1000, pl_1280, pl_9999, pl_10000, pu_neg, pu_nn, pu_le, pu_lt, pu_eq, pu_cl, pu_in, pu_g, pu_let, pu_bind, pu_m1, pu_add, pu_mul, Nat.not_lt_zero, if_false, if_true, Nat.zero_le, pu_d2, pu_d100, pu_em1, reduceIte, Nat.reduceEqDiff, Nat.reduceLT, Nat.reduceLeDiff, Nat.reduceAdd, Nat.reduceMul, Nat.reduceSub, not_true_eq_false, not_false_eq_true, and_true, true_and, and_false, false_and, or_true, true_or, or_false, false_or, Nat.lt_irrefl, Nat.le_refl, Nat.add_zero, Bool.false_eq_true, e1, k6]
  by_cases c0 : drN (T 0 11) 4 = 0
  · rw [if_pos c0, if_pos c0, e2]
    have hpl := price_le d2 (show yrD T < 8 by omega)
    simp only [pu_bind]
    have kP := is_priceOf u2.1 d2 hd3
    unfold yrD at kP
    rw [kP]
    simp only [pu_bind]
    cases c : bidB (yrB T) (yrD T) (price (yrB T) (yrD T)) with
    | true =>
      obtain ⟨ρ3, e3, u3⟩ := is_takeBid u2.1 d2 (by show price (drT (drT T)) (yrD T) < 2147483648; omega) c
      obtain ⟨τ, e4, u4⟩ := fin (bid_I d2) (u12.tr u3)
      unfold yrB yrD at e3
      simp only [e3, pu_bind, e4]
      exact ⟨τ, rfl, u4⟩
    | false =>
      have e3 := is_takeBid_f u2.1 d2 (m := yrD T) (by omega) (by show price (drT (drT T)) (yrD T) < 2147483648; omega) c
      obtain ⟨τ, e4, u4⟩ := fin d2 u12
      unfold yrB yrD at e3
      simp only [e3, pu_bind, e4]
      exact ⟨τ, rfl, u4⟩
  · rw [if_neg c0, if_neg c0]
    by_cases c1 : drN (T 0 11) 4 = 1
    · rw [if_pos c1, if_pos c1]
      obtain ⟨ρ3, e3, u3⟩ := is_sendLetters u1.1 d1
      obtain ⟨τ, e4, u4⟩ := fin (sen_I d1 8).1 (u1.tr u3)
      simp only [e3, pu_bind, e4]
      exact ⟨τ, rfl, u4⟩
    · rw [if_neg c1, if_neg c1]
      by_cases c2 : drN (T 0 11) 4 = 2
      · rw [if_pos c2, if_pos c2, e2]
        simp only [pu_bind]
        cases c : atB (yrB T) 1 (yrD T) with
        | true =>
          obtain ⟨ρ3, e3, u3⟩ := is_suffer u2.1 d2 (show 1 < 3 by omega) c
          obtain ⟨τ, e4, u4⟩ := fin (suf_I d2) (u12.tr u3)
          unfold yrD at e3
          simp only [e3, pu_bind, e4]
          exact ⟨τ, rfl, u4⟩
        | false =>
          have e3 := is_suffer_f u2.1 d2 (m := yrD T) (by omega) (show 1 < 3 by omega) c
          obtain ⟨τ, e4, u4⟩ := fin d2 u12
          unfold yrD at e3
          simp only [e3, pu_bind, e4]
          exact ⟨τ, rfl, u4⟩
      · rw [if_neg c2, if_neg c2]
        obtain ⟨τ, e4, u4⟩ := fin d1 u1
        simp only [pu_bind, e4]
        exact ⟨τ, rfl, u4⟩
theorem md_j110 (k : Int32 → Int32 → Int32 → nm_St → Option (Int32 × nm_St)) (h : MdR σ T) (hI : IslI T) (x : Int32) (c i : Nat) : ∃ τ, Md_years_j110 k x (nI c) (nI i) σ = k x (nI (c + madeN (monT T) (atB (monT T) 1))) (nI (i + 1)) τ ∧ MdU σ τ (monT T) := by
  obtain ⟨τ, e1, u1⟩ := md_passes h hI
  have hJ := mon_I hI
  refine ⟨τ, ?_, u1⟩
  have hm := madeN_le (monT T) (atB (monT T) 1)
  unfold Md_years_j110
  simp (disch := omega) only [pl_0, pl_1, pl_2, pl_3, pl_4, pl_5, pl_6, pl_7, pl_8, pl_9, pl_10, pl_11, pl_12, pl_13, pl_14, pl_15, pl_16, pl_17, pl_18, pl_19, pl_20, pl_21, pl_30, pl_40, pl_50, pl_51, pl_60, pl_70, pl_71, pl_99, pl_100, pl_160, pl_240, pl_256, pl_300, pl_999, pl_1000, pl_1280, pl_9999, pl_10000, pu_neg, pu_nn, pu_le, pu_lt, pu_eq, pu_cl, pu_in, pu_g, pu_let, pu_bind, pu_m1, pu_add, pu_mul, Nat.not_lt_zero, if_false, if_true, Nat.zero_le, pu_d2, pu_d100, pu_em1, reduceIte, Nat.reduceEqDiff, Nat.reduceLT, Nat.reduceLeDiff, Nat.reduceAdd, Nat.reduceMul, Nat.reduceSub, not_true_eq_false, not_false_eq_true, and_true, true_and, and_false, false_and, or_true, true_or, or_false, false_or, Nat.lt_irrefl, Nat.le_refl, Nat.add_zero, Bool.false_eq_true, e1, md_those u1.1 hJ (show 1 ≤ 3 by omega), md_isMade u1.1 hJ (f := atB (monT T) 1) (fun i hi => at_out hi)]
  by_cases z : madeN (monT T) (atB (monT T) 1) = 0
  · rw [if_pos z, z]; rfl
  · rw [if_neg z, show madeN (monT T) (atB (monT T) 1) = 1 by omega]
theorem com_draw {B : is_T} (hI : IslI B) {m : Nat} (hm : m < B 0 6) : comB B (100 + m) = bidB B m (price B m) ∧ comT B (100 + m) = bidT B m (price B m) ∧ comB B (300 + m) = atB B 1 m ∧ comT B (300 + m) = sufT B m 1 := by
  have hc := hI.1
  have a1 : (100 + m) % 100 = m := by omega
  have a2 : (100 + m) / 100 = 1 := by omega
  have b1 : (300 + m) % 100 = m := by omega
  have b2 : (300 + m) / 100 = 3 := by omega
  refine ⟨?_, ?_, ?_, ?_⟩
  · rw [com_bid (by omega) a2, a1]
  · unfold comT
    rw [if_neg (by omega), if_pos a2, a1]
  · rw [com_suf (by omega) (by omega), b1, b2]
    simp
  · unfold comT
    rw [if_neg (by omega), if_neg (by omega), b1, b2]
theorem md_yr (K : Int32 → nm_St → Option (Int32 × nm_St)) (h : MdR σ T) (hI : IslI T) (h0 : 0 < T 0 6) {N n c i : Nat} (hN : N < 2147483648) (hi : i < N) : ∃ τ, Md_years_l37 K (n + 1) (nI N) (nI c) (nI i) σ = Md_years_l37 K n (nI N) (nI (c + madeN (yrT T) (atB (yrT T) 1))) (nI (i + 1)) τ ∧ MdU σ τ (yrT T) := by
  have hc := hI.1
  have d1 := dr_I hI
  have d2 := dr_I d1
  obtain ⟨ρ, e1, u1⟩ := md_drawN h (show 0 < 4 by omega) (by omega)
  have hd := drN_lt (T 0 11) (show 0 < 4 by omega)
  have k6 : ρ.1 70 0 = nI (T 0 6) := by rw [u1.1.c, dr_6]
  obtain ⟨ρ2, e2, u2⟩ := md_drawN u1.1 (p := T 0 6) h0 (by omega)
  have hd2 : yrD T < T 0 6 := drN_lt (drT T 0 11) h0
  have hd3 : yrD T < yrB T 0 6 := by unfold yrB; rw [dr_6, dr_6]; exact hd2
  have u12 := u1.tr u2
  obtain ⟨q1, q2, q3, q4⟩ := com_draw d2 hd3
  have fin : ∀ {A : is_T} {ρ : nm_St}, IslI A → MdU σ ρ A → ∃ τ, Md_years_j110 (Md_years_l37 K n) (nI N) (nI c) (nI i) ρ = Md_years_l37 K n (nI N) (nI (c + madeN (monT A) (atB (monT A) 1))) (nI (i + 1)) τ ∧ MdU σ τ (monT A) := by
    intro A ρ hA hu
    obtain ⟨τ, e, u⟩ := md_j110 (Md_years_l37 K n) hu.1 hA (nI N) c i
    exact ⟨τ, e, hu.tr u⟩
  unfold yrT yrA
  simp (disch := omega) only [Md_years_l37, pl_0, pl_1, pl_2, pl_3, pl_4, pl_5, pl_6, pl_7, pl_8, pl_9, pl_10, pl_11, pl_12, pl_13, pl_14, pl_15, pl_16, pl_17, pl_18, pl_19, pl_20, pl_21, pl_30, pl_40, pl_50, pl_51, pl_60, pl_70, pl_71, pl_99, pl_100, pl_160, pl_240, pl_256, pl_300, pl_999, pl_1000, pl_1280, pl_9999, pl_10000, pu_neg, pu_nn, pu_le, pu_lt, pu_eq, pu_cl, pu_in, pu_g, pu_let, pu_bind, pu_m1, pu_add, pu_mul, Nat.not_lt_zero, if_false, if_true, Nat.zero_le, pu_d2, pu_d100, pu_em1, reduceIte, Nat.reduceEqDiff, Nat.reduceLT, Nat.reduceLeDiff, Nat.reduceAdd, Nat.reduceMul, Nat.reduceSub, not_true_eq_false, not_false_eq_true, and_true, true_and, and_false, false_and, or_true, true_or, or_false, false_or, Nat.lt_irrefl, Nat.le_refl, Nat.add_zero, Bool.false_eq_true, e1]
  rw [if_neg (by omega)]
  by_cases c1 : drN (T 0 11) 4 = 1
  · obtain ⟨ρ3, e3, u3⟩ := md_writes u1.1 d1
    rw [if_pos c1, e3, if_neg (show ¬ drN (T 0 11) 4 = 0 by omega), if_pos c1]
    simp (disch := omega) only [Md_years_j60, pl_0, pl_1, pl_2, pl_3, pl_4, pl_5, pl_6, pl_7, pl_8, pl_9, pl_10, pl_11, pl_12, pl_13, pl_14, pl_15, pl_16, pl_17, pl_18, pl_19, pl_20, pl_21, pl_30, pl_40, pl_50, pl_51, pl_60, pl_70, pl_71, pl_99, pl_100, pl_160, pl_240, pl_256, pl_300, pl_999, pl_1000, pl_1280, pl_9999, pl_10000, pu_neg, pu_nn, pu_le, pu_lt, pu_eq, pu_cl, pu_in, pu_g, pu_let, pu_bind, pu_m1, pu_add, pu_mul, Nat.not_lt_zero, if_false, if_true, Nat.zero_le, pu_d2, pu_d100, pu_em1, reduceIte, Nat.reduceEqDiff, Nat.reduceLT, Nat.reduceLeDiff, Nat.reduceAdd, Nat.reduceMul, Nat.reduceSub, not_true_eq_false, not_false_eq_true, and_true, true_and, and_false, false_and, or_true, true_or, or_false, false_or, Nat.lt_irrefl, Nat.le_refl, Nat.add_zero, Bool.false_eq_true, c1]
    exact fin (sen_I d1 8).1 (u1.tr u3)
  · rw [if_neg c1]
    have j84 : ∀ (y : Nat), y = 100 ∨ y = 300 → ∃ τ, Md_years_j84 (Md_years_l37 K n) (nI N) (nI c) (nI i) (nI y) ρ = Md_years_l37 K n (nI N) (nI (c + madeN (monT (if comB (yrB T) (y + yrD T) then comT (yrB T) (y + yrD T) else yrB T)) (atB (monT (if comB (yrB T) (y + yrD T) then comT (yrB T) (y + yrD T) else yrB T)) 1))) (nI (i + 1)) τ ∧ MdU σ τ (monT (if comB (yrB T) (y + yrD T) then comT (yrB T) (y + yrD T) else yrB T)) := by
      intro y hy
      have kC := md_can u2.1 d2 (v := y + yrD T) (by omega)
      unfold Md_years_j84
      simp (disch := omega) only [pl_0, pl_1, pl_2, pl_3, pl_4, pl_5, pl_6, pl_7, pl_8, pl_9, pl_10, pl_11, pl_12, pl_13, pl_14, pl_15, pl_16, pl_17, pl_18, pl_19, pl_20, pl_21, pl_30, pl_40, pl_50, pl_51, pl_60, pl_70, pl_71, pl_99, pl_100, pl_160, pl_240, pl_256, pl_300, pl_999, pl_1000, pl_1280, pl_9999, pl_10000, pu_neg, pu_nn, pu_le, pu_lt, pu_eq, pu_cl, pu_in, pu_g, pu_let, pu_bind, pu_m1, pu_add, pu_mul, Nat.not_lt_zero, if_false, if_true, Nat.zero_le, pu_d2, pu_d100, pu_em1, reduceIte, Nat.reduceEqDiff, Nat.reduceLT, Nat.reduceLeDiff, Nat.reduceAdd, Nat.reduceMul, Nat.reduceSub, not_true_eq_false, not_false_eq_true, and_true, true_and, and_false, false_and, or_true, true_or, or_false, false_or, Nat.lt_irrefl, Nat.le_refl, Nat.add_zero, Bool.false_eq_true, k6, e2]
      unfold yrD at kC
      rw [kC]
      cases cc : comB (yrB T) (y + yrD T) with
      | true =>
        obtain ⟨ρ3, e3, u3⟩ := md_comes u2.1 d2 (v := y + yrD T) (by omega) cc
        have f := fin (com_I d2) (u12.tr u3)
        have e3' : Md_comes (nI (y + drN (drT T 0 11) (T 0 6))) ρ2 = some ((), ρ3) := e3
        have cc' : comB (drT (drT T)) (y + drN (drT T 0 11) (T 0 6)) = true := cc
        rw [cc']
        simp (disch := omega) only [pl_0, pl_1, pl_2, pl_3, pl_4, pl_5, pl_6, pl_7, pl_8, pl_9, pl_10, pl_11, pl_12, pl_13, pl_14, pl_15, pl_16, pl_17, pl_18, pl_19, pl_20, pl_21, pl_30, pl_40, pl_50, pl_51, pl_60, pl_70, pl_71, pl_99, pl_100, pl_160, pl_240, pl_256, pl_300, pl_999, pl_1000, pl_1280, pl_9999, pl_10000, pu_neg, pu_nn, pu_le, pu_lt, pu_eq, pu_cl, pu_in, pu_g, pu_let, pu_bind, pu_m1, pu_add, pu_mul, Nat.not_lt_zero, if_false, if_true, Nat.zero_le, pu_d2, pu_d100, pu_em1, reduceIte, Nat.reduceEqDiff, Nat.reduceLT, Nat.reduceLeDiff, Nat.reduceAdd, Nat.reduceMul, Nat.reduceSub, not_true_eq_false, not_false_eq_true, and_true, true_and, and_false, false_and, or_true, true_or, or_false, false_or, Nat.lt_irrefl, Nat.le_refl, Nat.add_zero, Bool.false_eq_true, e3']
        exact f
      | false =>
        have f := fin d2 u12
        have cc' : comB (drT (drT T)) (y + drN (drT T 0 11) (T 0 6)) = false := cc
        rw [cc']
        simp (disch := omega) only [pl_0, pl_1, pl_2, pl_3, pl_4, pl_5, pl_6, pl_7, pl_8, pl_9, pl_10, pl_11, pl_12, pl_13, pl_14, pl_15, pl_16, pl_17, pl_18, pl_19, pl_20, pl_21, pl_30, pl_40, pl_50, pl_51, pl_60, pl_70, pl_71, pl_99, pl_100, pl_160, pl_240, pl_256, pl_300, pl_999, pl_1000, pl_1280, pl_9999, pl_10000, pu_neg, pu_nn, pu_le, pu_lt, pu_eq, pu_cl, pu_in, pu_g, pu_let, pu_bind, pu_m1, pu_add, pu_mul, Nat.not_lt_zero, if_false, if_true, Nat.zero_le, pu_d2, pu_d100, pu_em1, reduceIte, Nat.reduceEqDiff, Nat.reduceLT, Nat.reduceLeDiff, Nat.reduceAdd, Nat.reduceMul, Nat.reduceSub, not_true_eq_false, not_false_eq_true, and_true, true_and, and_false, false_and, or_true, true_or, or_false, false_or, Nat.lt_irrefl, Nat.le_refl, Nat.add_zero, Bool.false_eq_true]
        exact f
    by_cases c0 : drN (T 0 11) 4 = 0
    · have f := j84 100 (Or.inl rfl)
      rw [show yrB T = drT (drT T) from rfl, q1, q2] at f
      rw [if_pos c0, c0]
      simp (disch := omega) only [Md_years_j60, Md_years_j71, pl_0, pl_1, pl_2, pl_3, pl_4, pl_5, pl_6, pl_7, pl_8, pl_9, pl_10, pl_11, pl_12, pl_13, pl_14, pl_15, pl_16, pl_17, pl_18, pl_19, pl_20, pl_21, pl_30, pl_40, pl_50, pl_51, pl_60, pl_70, pl_71, pl_99, pl_100, pl_160, pl_240, pl_256, pl_300, pl_999, pl_1000, pl_1280, pl_9999, pl_10000, pu_neg, pu_nn, pu_le, pu_lt, pu_eq, pu_cl, pu_in, pu_g, pu_let, pu_bind, pu_m1, pu_add, pu_mul, Nat.not_lt_zero, if_false, if_true, Nat.zero_le, pu_d2, pu_d100, pu_em1, reduceIte, Nat.reduceEqDiff, Nat.reduceLT, Nat.reduceLeDiff, Nat.reduceAdd, Nat.reduceMul, Nat.reduceSub, not_true_eq_false, not_false_eq_true, and_true, true_and, and_false, false_and, or_true, true_or, or_false, false_or, Nat.lt_irrefl, Nat.le_refl, Nat.add_zero, Bool.false_eq_true]
      exact f
    · rw [if_neg c0, if_neg c1]
      by_cases c2 : drN (T 0 11) 4 = 2
      · have f := j84 300 (Or.inr rfl)
        rw [show yrB T = drT (drT T) from rfl, q3, q4] at f
        rw [if_pos c2, c2]
        simp (disch := omega) only [Md_years_j60, Md_years_j71, pl_0, pl_1, pl_2, pl_3, pl_4, pl_5, pl_6, pl_7, pl_8, pl_9, pl_10, pl_11, pl_12, pl_13, pl_14, pl_15, pl_16, pl_17, pl_18, pl_19, pl_20, pl_21, pl_30, pl_40, pl_50, pl_51, pl_60, pl_70, pl_71, pl_99, pl_100, pl_160, pl_240, pl_256, pl_300, pl_999, pl_1000, pl_1280, pl_9999, pl_10000, pu_neg, pu_nn, pu_le, pu_lt, pu_eq, pu_cl, pu_in, pu_g, pu_let, pu_bind, pu_m1, pu_add, pu_mul, Nat.not_lt_zero, if_false, if_true, Nat.zero_le, pu_d2, pu_d100, pu_em1, reduceIte, Nat.reduceEqDiff, Nat.reduceLT, Nat.reduceLeDiff, Nat.reduceAdd, Nat.reduceMul, Nat.reduceSub, not_true_eq_false, not_false_eq_true, and_true, true_and, and_false, false_and, or_true, true_or, or_false, false_or, Nat.lt_irrefl, Nat.le_refl, Nat.add_zero, Bool.false_eq_true]
        exact f
      · rw [if_neg c2]
        have f := fin d1 u1
        simp (disch := omega) only [Md_years_j60, pl_0, pl_1, pl_2, pl_3, pl_4, pl_5, pl_6, pl_7, pl_8, pl_9, pl_10, pl_11, pl_12, pl_13, pl_14, pl_15, pl_16, pl_17, pl_18, pl_19, pl_20, pl_21, pl_30, pl_40, pl_50, pl_51, pl_60, pl_70, pl_71, pl_99, pl_100, pl_160, pl_240, pl_256, pl_300, pl_999, pl_1000, pl_1280, pl_9999, pl_10000, pu_neg, pu_nn, pu_le, pu_lt, pu_eq, pu_cl, pu_in, pu_g, pu_let, pu_bind, pu_m1, pu_add, pu_mul, Nat.not_lt_zero, if_false, if_true, Nat.zero_le, pu_d2, pu_d100, pu_em1, reduceIte, Nat.reduceEqDiff, Nat.reduceLT, Nat.reduceLeDiff, Nat.reduceAdd, Nat.reduceMul, Nat.reduceSub, not_true_eq_false, not_false_eq_true, and_true, true_and, and_false, false_and, or_true, true_or, or_false, false_or, Nat.lt_irrefl, Nat.le_refl, Nat.add_zero, Bool.false_eq_true]
        rw [if_neg c0, if_neg c2]
        exact f
end ISQ
