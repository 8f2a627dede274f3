/-! deeds, bids, draws, letters: both sides -/
def dto (d : Nat) : Nat := if d = 0 then 2 else if d = 1 then 3 else 0
def fearN (f d : Nat) : Nat := if d = 0 then min 99 (f + 5) else if d = 1 then min 99 (f + 10) else f - 5
def sufT (T : is_T) (m d : Nat) : is_T := nm_up (nm_up T 6 m (dto d)) 0 8 (fearN (T 0 8) d)
theorem suf_I {T : is_T} (hI : IslI T) {m d : Nat} : IslI (sufT T m d) := by
  have h1 := hI.2.2.1
  have h2 : dto d ≤ 3 := by
    unfold dto
    split
    · omega
    · split <;> omega
  have h3 : fearN (T 0 8) d ≤ 99 := by
    unfold fearN
    split
    · omega
    · split <;> omega
  exact (hI.up (ok_r6 h2)).up (ok_08 h3)
theorem suf_6 (T : is_T) (m d : Nat) : sufT T m d 0 6 = T 0 6 := by
  unfold sufT
  rw [up_at, up_at, if_neg (by omega), if_neg (by omega)]
theorem tb1 : ∀ d, d < 3 → (nm_tab 1).getD d (nI 0) = nI d := by decide +kernel
theorem tb2 : ∀ d, d < 3 → (nm_tab 2).getD d (nI 0) = nI (dto d) := by decide +kernel
theorem fear_c : ∀ f, f < 100 → ∀ d, d < 3 → (if nI 0 < (if nI f + (nm_tab 3).getD d (nI 0) < nI 99 then nI f + (nm_tab 3).getD d (nI 0) else nI 99) then (if nI f + (nm_tab 3).getD d (nI 0) < nI 99 then nI f + (nm_tab 3).getD d (nI 0) else nI 99) else nI 0) = nI (fearN f d) := by decide +kernel
theorem fear_m : ∀ f, f < 100 → (if nI 0 ≤ nI f + nI 5 then (if nI f + nI 5 ≤ nI 99 then nI f + nI 5 else nI 99) else nI 0) = nI (fearN f 0) ∧ (if nI 0 ≤ nI f + nI 10 then (if nI f + nI 10 ≤ nI 99 then nI f + nI 10 else nI 99) else nI 0) = nI (fearN f 1) ∧ (if nI 0 ≤ nI f + -nI 5 then (if nI f + -nI 5 ≤ nI 99 then nI f + -nI 5 else nI 99) else nI 0) = nI (fearN f 2) := by decide +kernel
section ISL
variable {σ : nm_St} {o : Nat} {T : is_T}
theorem is_isAtA (h : IslR σ o T) (hI : IslI T) {m q : Nat} (hm : m < 2147483648) (hq : q ≤ 3) : Is_isAt o (nI m) (nI q) σ = some (nI (if atB T q m then 1 else 0), σ) := by
  have hc := hI.1
  by_cases e : m < 8
  · exact is_isAt h hI e hq
  · rw [is_isAt_n h (Or.inr (nI_le (by omega) (by omega))), at_out (by omega)]
    rfl
theorem is_canSuffer (h : IslR σ o T) (hI : IslI T) {m d : Nat} (hm : m < 2147483648) (hd : d < 3) : Is_canSuffer o (nI m) (nI d) σ = some (nI (if atB T d m then 1 else 0), σ) := by
  unfold Is_canSuffer
  simp (disch := omega) only [pl_0, pl_1, pl_2, pl_3, pl_4, pl_5, pl_6, pl_7, pl_8, pl_9, pl_10, pl_11, pl_12, pl_13, pl_14, pl_15, pl_16, pl_17, pl_18, pl_19, pl_20, pl_21, pl_30, pl_40, pl_50, pl_51, pl_60, pl_70, pl_71, pl_99, pl_100, pl_160, pl_240, pl_256, pl_300, pl_999, pl_1000, pl_1280, pl_9999, pl_10000, pu_neg, pu_nn, pu_le, pu_lt, pu_eq, pu_cl, pu_in, pu_g, pu_let, pu_bind, pu_m1, pu_add, pu_mul, Nat.not_lt_zero, if_false, if_true, Nat.zero_le, pu_d2, pu_d100, pu_em1, reduceIte, Nat.reduceEqDiff, Nat.reduceLT, Nat.reduceLeDiff, Nat.reduceAdd, Nat.reduceMul, Nat.reduceSub, not_true_eq_false, not_false_eq_true, and_true, true_and, and_false, false_and, or_true, true_or, or_false, false_or, Nat.lt_irrefl, Nat.le_refl, Nat.add_zero, Bool.false_eq_true, show nm_tabN 1 = 3 from rfl, tb1 d hd, is_isAtA h hI hm (show d ≤ 3 by omega)]
  rw [if_neg (by omega)]
  cases atB T d m <;> simp (disch := omega) only [pl_0, pl_1, pl_2, pl_3, pl_4, pl_5, pl_6, pl_7, pl_8, pl_9, pl_10, pl_11, pl_12, pl_13, pl_14, pl_15, pl_16, pl_17, pl_18, pl_19, pl_20, pl_21, pl_30, pl_40, pl_50, pl_51, pl_60, pl_70, pl_71, pl_99, pl_100, pl_160, pl_240, pl_256, pl_300, pl_999, pl_1000, pl_1280, pl_9999, pl_10000, pu_neg, pu_nn, pu_le, pu_lt, pu_eq, pu_cl, pu_in, pu_g, pu_let, pu_bind, pu_m1, pu_add, pu_mul, Nat.not_lt_zero, if_false, if_true, Nat.zero_le, pu_d2, pu_d100, pu_em1, reduceIte, Nat.reduceEqDiff, Nat.reduceLT, Nat.reduceLeDiff, Nat.reduceAdd, Nat.reduceMul, Nat.reduceSub, not_true_eq_false, not_false_eq_true, and_true, true_and, and_false, false_and, or_true, true_or, or_false, false_or, Nat.lt_irrefl, Nat.le_refl, Nat.add_zero, Bool.false_eq_true, Bool.false_eq_true]
theorem is_suffer_n (h : IslR σ o T) {m : Int32} {d : Nat} (hd : 3 ≤ d) (hd2 : d < 2147483648) : Is_suffer o m (nI d) σ = some (nI 0, σ) := by
  unfold Is_suffer
  simp (disch := omega) only [pl_0, pl_1, pl_2, pl_3, pl_4, pl_5, pl_6, pl_7, pl_8, pl_9, pl_10, pl_11, pl_12, pl_13, pl_14, pl_15, pl_16, pl_17, pl_18, pl_19, pl_20, pl_21, pl_30, pl_40, pl_50, pl_51, pl_60, pl_70, pl_71, pl_99, pl_100, pl_160, pl_240, pl_256, pl_300, pl_999, pl_1000, pl_1280, pl_9999, pl_10000, pu_neg, pu_nn, pu_le, pu_lt, pu_eq, pu_cl, pu_in, pu_g, pu_let, pu_bind, pu_m1, pu_add, pu_mul, Nat.not_lt_zero, if_false, if_true, Nat.zero_le, pu_d2, pu_d100, pu_em1, reduceIte, Nat.reduceEqDiff, Nat.reduceLT, Nat.reduceLeDiff, Nat.reduceAdd, Nat.reduceMul, Nat.reduceSub, not_true_eq_false, not_false_eq_true, and_true, true_and, and_false, false_and, or_true, true_or, or_false, false_or, Nat.lt_irrefl, Nat.le_refl, Nat.add_zero, Bool.false_eq_true]
  rw [if_pos (by omega)]
theorem is_suffer_f (h : IslR σ o T) (hI : IslI T) {m d : Nat} (hm : m < 2147483648) (hd : d < 3) (e : atB T d m = false) : Is_suffer o (nI m) (nI d) σ = some (nI 0, σ) := by
  have k := is_isAtA h hI hm (show d ≤ 3 by omega)
  rw [e] at k
  unfold Is_suffer
  simp (disch := omega) only [pl_0, pl_1, pl_2, pl_3, pl_4, pl_5, pl_6, pl_7, pl_8, pl_9, pl_10, pl_11, pl_12, pl_13, pl_14, pl_15, pl_16, pl_17, pl_18, pl_19, pl_20, pl_21, pl_30, pl_40, pl_50, pl_51, pl_60, pl_70, pl_71, pl_99, pl_100, pl_160, pl_240, pl_256, pl_300, pl_999, pl_1000, pl_1280, pl_9999, pl_10000, pu_neg, pu_nn, pu_le, pu_lt, pu_eq, pu_cl, pu_in, pu_g, pu_let, pu_bind, pu_m1, pu_add, pu_mul, Nat.not_lt_zero, if_false, if_true, Nat.zero_le, pu_d2, pu_d100, pu_em1, reduceIte, Nat.reduceEqDiff, Nat.reduceLT, Nat.reduceLeDiff, Nat.reduceAdd, Nat.reduceMul, Nat.reduceSub, not_true_eq_false, not_false_eq_true, and_true, true_and, and_false, false_and, or_true, true_or, or_false, false_or, Nat.lt_irrefl, Nat.le_refl, Nat.add_zero, Bool.false_eq_true, show nm_tabN 1 = 3 from rfl, tb1 d hd, k]
  rw [if_neg (by omega)]
theorem is_suffer (h : IslR σ o T) (hI : IslI T) {m d : Nat} (hd : d < 3) (e : atB T d m = true) : ∃ τ, Is_suffer o (nI m) (nI d) σ = some (nI 1, τ) ∧ IslU σ o τ (sufT T m d) := by
  have hc := hI.1
  have hf := hI.2.2.1
  have hm := at_lt e
  have k := is_isAtA h hI (show m < 2147483648 by omega) (show d ≤ 3 by omega)
  rw [e] at k
  have kM := up_moveTo h hI hm (nI (dto d))
  have k8 : (nm_pI σ (o + 6) m (nI (dto d))).1 o 8 = nI (T 0 8) := by rw [pI_ne _ _ (by omega), h.f]
  unfold Is_suffer
  simp (disch := omega) only [pl_0, pl_1, pl_2, pl_3, pl_4, pl_5, pl_6, pl_7, pl_8, pl_9, pl_10, pl_11, pl_12, pl_13, pl_14, pl_15, pl_16, pl_17, pl_18, pl_19, pl_20, pl_21, pl_30, pl_40, pl_50, pl_51, pl_60, pl_70, pl_71, pl_99, pl_100, pl_160, pl_240, pl_256, pl_300, pl_999, pl_1000, pl_1280, pl_9999, pl_10000, pu_neg, pu_nn, pu_le, pu_lt, pu_eq, pu_cl, pu_in, pu_g, pu_let, pu_bind, pu_m1, pu_add, pu_mul, Nat.not_lt_zero, if_false, if_true, Nat.zero_le, pu_d2, pu_d100, pu_em1, reduceIte, Nat.reduceEqDiff, Nat.reduceLT, Nat.reduceLeDiff, Nat.reduceAdd, Nat.reduceMul, Nat.reduceSub, not_true_eq_false, not_false_eq_true, and_true, true_and, and_false, false_and, or_true, true_or, or_false, false_or, Nat.lt_irrefl, Nat.le_refl, Nat.add_zero, Bool.false_eq_true, show nm_tabN 1 = 3 from rfl, show nm_tabN 2 = 3 from rfl, show nm_tabN 3 = 3 from rfl, tb1 d hd, tb2 d hd, k, kM, k8]
  rw [if_neg (by omega)]
  simp only [fear_c _ (show T 0 8 < 100 by omega) d hd]
  exact ⟨_, rfl, ((IslU.rf h).up (r := 6) _ (by omega) (by omega) (by omega)).up0 _ (by omega) (by omega)⟩
theorem md_mayDeed (h : MdR σ T) (hI : IslI T) {m d : Nat} (hm : m < T 0 6) (hd : d < 3) : Md_mayDeed (nI m) (nI d) σ = some (nI (if atB T d m then 1 else 0), σ) := by
  have hc := hI.1
  have h6 := (hI.2.2.2.2 m (by omega)).2.2.2.2.2
  unfold Md_mayDeed
  have ha : ∀ q, atB T q m = decide (T 6 m = q) := fun q => by unfold atB; simp [hm]
  rw [ha]
  simp (disch := omega) only [Md_mayDeed_j24, pl_0, pl_1, pl_2, pl_3, pl_4, pl_5, pl_6, pl_7, pl_8, pl_9, pl_10, pl_11, pl_12, pl_13, pl_14, pl_15, pl_16, pl_17, pl_18, pl_19, pl_20, pl_21, pl_30, pl_40, pl_50, pl_51, pl_60, pl_70, pl_71, pl_99, pl_100, pl_160, pl_240, pl_256, pl_300, pl_999, pl_1000, pl_1280, pl_9999, pl_10000, pu_neg, pu_nn, pu_le, pu_lt, pu_eq, pu_cl, pu_in, pu_g, pu_let, pu_bind, pu_m1, pu_add, pu_mul, Nat.not_lt_zero, if_false, if_true, Nat.zero_le, pu_d2, pu_d100, pu_em1, reduceIte, Nat.reduceEqDiff, Nat.reduceLT, Nat.reduceLeDiff, Nat.reduceAdd, Nat.reduceMul, Nat.reduceSub, not_true_eq_false, not_false_eq_true, and_true, true_and, and_false, false_and, or_true, true_or, or_false, false_or, Nat.lt_irrefl, Nat.le_refl, Nat.add_zero, Bool.false_eq_true, h.a6]
  by_cases d0 : d = 0
  · subst d0; by_cases e : T 6 m = 0 <;> simp [e]
  · by_cases d1 : d = 1
    · subst d1; by_cases e : T 6 m = 1 <;> simp [e]
    · have d2 : d = 2 := by omega
      subst d2; by_cases e : T 6 m = 2 <;> simp [e]
theorem md_deeds (h : MdR σ T) (hI : IslI T) {m d : Nat} (hm : m < T 0 6) (hd : d < 3) : ∃ τ, Md_deeds (nI m) (nI d) σ = some ((), τ) ∧ MdU σ τ (sufT T m d) := by
  have hc := hI.1
  have hf := hI.2.2.1
  obtain ⟨f0, f1, f2⟩ := fear_m _ (show T 0 8 < 100 by omega)
  have k2 : ∀ x, (nm_pI σ 77 m x).1 70 2 = nI (T 0 8) := fun x => by rw [pI_ne _ _ (by omega), h.f]
  have g : ∀ x, Md_deeds_j49 (nI (T 0 8)) x (nm_pI σ 77 m (nI (dto d))) = some ((), nm_pI (nm_pI σ 77 m (nI (dto d))) 70 2 (if nI 0 ≤ nI (T 0 8) + x then (if nI (T 0 8) + x ≤ nI 99 then nI (T 0 8) + x else nI 99) else nI 0)) := by
    intro x
    unfold Md_deeds_j49
    simp only [pl_0, pl_99, pu_let, pI_eq, pI_pI]
    by_cases a : nI 0 ≤ nI (T 0 8) + x
    · rw [if_pos a, if_pos a]
      by_cases b : nI (T 0 8) + x ≤ nI 99
      · rw [if_pos b, if_pos b]
      · rw [if_neg b, if_neg b]
    · rw [if_neg a, if_neg a]
  have u : MdU σ (nm_pI (nm_pI σ 77 m (nI (dto d))) 70 2 (nI (fearN (T 0 8) d))) (sufT T m d) := ((MdU.rf h).up (r := 6) _ (by omega) (by omega) (by omega)).up0 (j := 2) _ (by omega)
  have hd3 : d = 0 ∨ d = 1 ∨ d = 2 := by omega
  unfold Md_deeds
  rcases hd3 with rfl | rfl | rfl
  · have g5 := g (nI 5)
    rw [f0] at g5
    refine ⟨_, ?_, u⟩
    rw [show dto 0 = 2 from rfl] at g5
    simp (disch := omega) only [Md_deeds_j23, pl_0, pl_1, pl_2, pl_3, pl_4, pl_5, pl_6, pl_7, pl_8, pl_9, pl_10, pl_11, pl_12, pl_13, pl_14, pl_15, pl_16, pl_17, pl_18, pl_19, pl_20, pl_21, pl_30, pl_40, pl_50, pl_51, pl_60, pl_70, pl_71, pl_99, pl_100, pl_160, pl_240, pl_256, pl_300, pl_999, pl_1000, pl_1280, pl_9999, pl_10000, pu_neg, pu_nn, pu_le, pu_lt, pu_eq, pu_cl, pu_in, pu_g, pu_let, pu_bind, pu_m1, pu_add, pu_mul, Nat.not_lt_zero, if_false, if_true, Nat.zero_le, pu_d2, pu_d100, pu_em1, reduceIte, Nat.reduceEqDiff, Nat.reduceLT, Nat.reduceLeDiff, Nat.reduceAdd, Nat.reduceMul, Nat.reduceSub, not_true_eq_false, not_false_eq_true, and_true, true_and, and_false, false_and, or_true, true_or, or_false, false_or, Nat.lt_irrefl, Nat.le_refl, Nat.add_zero, Bool.false_eq_true, k2] at g5 ⊢
    exact g5
  · have g5 := g (nI 10)
    rw [f1] at g5
    refine ⟨_, ?_, u⟩
    rw [show dto 1 = 3 from rfl] at g5
    simp (disch := omega) only [Md_deeds_j23, pl_0, pl_1, pl_2, pl_3, pl_4, pl_5, pl_6, pl_7, pl_8, pl_9, pl_10, pl_11, pl_12, pl_13, pl_14, pl_15, pl_16, pl_17, pl_18, pl_19, pl_20, pl_21, pl_30, pl_40, pl_50, pl_51, pl_60, pl_70, pl_71, pl_99, pl_100, pl_160, pl_240, pl_256, pl_300, pl_999, pl_1000, pl_1280, pl_9999, pl_10000, pu_neg, pu_nn, pu_le, pu_lt, pu_eq, pu_cl, pu_in, pu_g, pu_let, pu_bind, pu_m1, pu_add, pu_mul, Nat.not_lt_zero, if_false, if_true, Nat.zero_le, pu_d2, pu_d100, pu_em1, reduceIte, Nat.reduceEqDiff, Nat.reduceLT, Nat.reduceLeDiff, Nat.reduceAdd, Nat.reduceMul, Nat.reduceSub, not_true_eq_false, not_false_eq_true, and_true, true_and, and_false, false_and, or_true, true_or, or_false, false_or, Nat.lt_irrefl, Nat.le_refl, Nat.add_zero, Bool.false_eq_true, k2] at g5 ⊢
    exact g5
  · have g5 := g (-nI 5)
    rw [f2] at g5
    refine ⟨_, ?_, u⟩
    rw [show dto 2 = 0 from rfl] at g5
    simp (disch := omega) only [Md_deeds_j23, pl_0, pl_1, pl_2, pl_3, pl_4, pl_5, pl_6, pl_7, pl_8, pl_9, pl_10, pl_11, pl_12, pl_13, pl_14, pl_15, pl_16, pl_17, pl_18, pl_19, pl_20, pl_21, pl_30, pl_40, pl_50, pl_51, pl_60, pl_70, pl_71, pl_99, pl_100, pl_160, pl_240, pl_256, pl_300, pl_999, pl_1000, pl_1280, pl_9999, pl_10000, pu_neg, pu_nn, pu_le, pu_lt, pu_eq, pu_cl, pu_in, pu_g, pu_let, pu_bind, pu_m1, pu_add, pu_mul, Nat.not_lt_zero, if_false, if_true, Nat.zero_le, pu_d2, pu_d100, pu_em1, reduceIte, Nat.reduceEqDiff, Nat.reduceLT, Nat.reduceLeDiff, Nat.reduceAdd, Nat.reduceMul, Nat.reduceSub, not_true_eq_false, not_false_eq_true, and_true, true_and, and_false, false_and, or_true, true_or, or_false, false_or, Nat.lt_irrefl, Nat.le_refl, Nat.add_zero, Bool.false_eq_true, k2] at g5 ⊢
    exact g5
end ISL
/-! bids -/
def bidB (T : is_T) (m b : Nat) : Bool := atB T 0 m && (decide (b ≤ T 0 9) && decide (price T m ≤ b))
def bidT (T : is_T) (m b : Nat) : is_T := nm_up (nm_up T 6 m 1) 0 9 (T 0 9 - b)
theorem bid_I {T : is_T} (hI : IslI T) {m b : Nat} : IslI (bidT T m b) := by
  have h1 := hI.2.2.2.1
  exact (hI.up (ok_r6 (by omega))).up (ok_09 (by omega))
theorem bid_6 (T : is_T) (m b : Nat) : bidT T m b 0 6 = T 0 6 := by
  unfold bidT
  rw [up_at, up_at, if_neg (by omega), if_neg (by omega)]
section ISM
variable {σ : nm_St} {o : Nat} {T : is_T}
theorem is_priceOf_n (h : IslR σ o T) (hI : IslI T) {x : Int32} (hx : x < 0 ∨ nI (T 0 6) ≤ x) : Is_priceOf o x σ = some (nI 0, σ) := by
  unfold Is_priceOf
  refine bind_of (is_isMaker_n h hI hx) ?_
  simp only [pl_0]
  rw [if_pos trivial]
theorem is_canBeBidN (h : IslR σ o T) (hI : IslI T) {m b : Nat} (hm : m < 2147483648) (hb : b < 2147483648) : Is_canBeBid o (nI m) (nI b) σ = some (nI (if atB T 0 m = true ∧ b ≤ T 0 9 then 1 else 0), σ) := by
  have hq := hI.2.2.2.1
  unfold Is_canBeBid
  simp only [pl_0, pl_1, pl_2, pl_3, pl_4, pl_5, pl_6, pl_7, pl_8, pl_9, pl_10, pl_11, pl_12, pl_13, pl_14, pl_15, pl_16, pl_17, pl_18, pl_19, pl_20, pl_21, pl_30, pl_40, pl_50, pl_51, pl_60, pl_70, pl_71, pl_99, pl_100, pl_160, pl_240, pl_256, pl_300, pl_999, pl_1000, pl_1280, pl_9999, pl_10000]
  refine bind_of (is_isAtA h hI hm (show 0 ≤ 3 by omega)) ?_
  cases e : atB T 0 m with
  | false => simp (disch := omega) only [pl_0, pl_1, pl_2, pl_3, pl_4, pl_5, pl_6, pl_7, pl_8, pl_9, pl_10, pl_11, pl_12, pl_13, pl_14, pl_15, pl_16, pl_17, pl_18, pl_19, pl_20, pl_21, pl_30, pl_40, pl_50, pl_51, pl_60, pl_70, pl_71, pl_99, pl_100, pl_160, pl_240, pl_256, pl_300, pl_999, pl_1000, pl_1280, pl_9999, pl_10000, pu_neg, pu_nn, pu_le, pu_lt, pu_eq, pu_cl, pu_in, pu_g, pu_let, pu_bind, pu_m1, pu_add, pu_mul, Nat.not_lt_zero, if_false, if_true, Nat.zero_le, pu_d2, pu_d100, pu_em1, reduceIte, Nat.reduceEqDiff, Nat.reduceLT, Nat.reduceLeDiff, Nat.reduceAdd, Nat.reduceMul, Nat.reduceSub, not_true_eq_false, not_false_eq_true, and_true, true_and, and_false, false_and, or_true, true_or, or_false, false_or, Nat.lt_irrefl, Nat.le_refl, Nat.add_zero, Bool.false_eq_true]
  | true =>
    simp (disch := omega) only [pl_0, pl_1, pl_2, pl_3, pl_4, pl_5, pl_6, pl_7, pl_8, pl_9, pl_10, pl_11, pl_12, pl_13, pl_14, pl_15, pl_16, pl_17, pl_18, pl_19, pl_20, pl_21, pl_30, pl_40, pl_50, pl_51, pl_60, pl_70, pl_71, pl_99, pl_100, pl_160, pl_240, pl_256, pl_300, pl_999, pl_1000, pl_1280, pl_9999, pl_10000, pu_neg, pu_nn, pu_le, pu_lt, pu_eq, pu_cl, pu_in, pu_g, pu_let, pu_bind, pu_m1, pu_add, pu_mul, Nat.not_lt_zero, if_false, if_true, Nat.zero_le, pu_d2, pu_d100, pu_em1, reduceIte, Nat.reduceEqDiff, Nat.reduceLT, Nat.reduceLeDiff, Nat.reduceAdd, Nat.reduceMul, Nat.reduceSub, not_true_eq_false, not_false_eq_true, and_true, true_and, and_false, false_and, or_true, true_or, or_false, false_or, Nat.lt_irrefl, Nat.le_refl, Nat.add_zero, Bool.false_eq_true, h.q]
    by_cases e3 : b ≤ T 0 9
    · rw [if_neg (by omega)]; simp [e3]
    · rw [if_pos (by omega)]; simp [e3]
theorem is_takeBid_f (h : IslR σ o T) (hI : IslI T) {m b : Nat} (hm : m < 2147483648) (hb : b < 2147483648) (e : bidB T m b = false) : Is_takeBid o (nI m) (nI b) σ = some (nI 0, σ) := by
  unfold Is_takeBid
  simp only [pl_0, pl_1, pl_2, pl_3, pl_4, pl_5, pl_6, pl_7, pl_8, pl_9, pl_10, pl_11, pl_12, pl_13, pl_14, pl_15, pl_16, pl_17, pl_18, pl_19, pl_20, pl_21, pl_30, pl_40, pl_50, pl_51, pl_60, pl_70, pl_71, pl_99, pl_100, pl_160, pl_240, pl_256, pl_300, pl_999, pl_1000, pl_1280, pl_9999, pl_10000]
  refine bind_of (is_canBeBidN h hI hm hb) ?_
  by_cases c : atB T 0 m = true ∧ b ≤ T 0 9
  · have hl := at_lt c.1
    have hc := hI.1
    have hp := price_le hI (show m < 8 by omega)
    rw [if_pos c]
    simp (disch := omega) only [pl_0, pl_1, pl_2, pl_3, pl_4, pl_5, pl_6, pl_7, pl_8, pl_9, pl_10, pl_11, pl_12, pl_13, pl_14, pl_15, pl_16, pl_17, pl_18, pl_19, pl_20, pl_21, pl_30, pl_40, pl_50, pl_51, pl_60, pl_70, pl_71, pl_99, pl_100, pl_160, pl_240, pl_256, pl_300, pl_999, pl_1000, pl_1280, pl_9999, pl_10000, pu_neg, pu_nn, pu_le, pu_lt, pu_eq, pu_cl, pu_in, pu_g, pu_let, pu_bind, pu_m1, pu_add, pu_mul, Nat.not_lt_zero, if_false, if_true, Nat.zero_le, pu_d2, pu_d100, pu_em1, reduceIte, Nat.reduceEqDiff, Nat.reduceLT, Nat.reduceLeDiff, Nat.reduceAdd, Nat.reduceMul, Nat.reduceSub, not_true_eq_false, not_false_eq_true, and_true, true_and, and_false, false_and, or_true, true_or, or_false, false_or, Nat.lt_irrefl, Nat.le_refl, Nat.add_zero, Bool.false_eq_true, is_priceOf h hI hl]
    rw [if_neg]
    intro z
    simp [bidB, c.1, c.2, z] at e
  · rw [if_neg c]
    simp only [if_pos]
theorem is_takeBid (h : IslR σ o T) (hI : IslI T) {m b : Nat} (hb : b < 2147483648) (e : bidB T m b = true) : ∃ τ, Is_takeBid o (nI m) (nI b) σ = some (nI 1, τ) ∧ IslU σ o τ (bidT T m b) := by
  unfold bidB at e
  simp only [Bool.and_eq_true, decide_eq_true_eq] at e
  obtain ⟨e1, e2, e3⟩ := e
  have hl := at_lt e1
  have hc := hI.1
  have k := is_canBeBidN h hI (show m < 2147483648 by omega) hb
  rw [if_pos ⟨e1, e2⟩] at k
  have k9 : (nm_pI σ (o + 6) m (nI 1)).1 o 9 = nI (T 0 9) := by rw [pI_ne _ _ (by omega), h.q]
  have hp := price_le hI (show m < 8 by omega)
  unfold Is_takeBid
  simp (disch := omega) only [pl_0, pl_1, pl_2, pl_3, pl_4, pl_5, pl_6, pl_7, pl_8, pl_9, pl_10, pl_11, pl_12, pl_13, pl_14, pl_15, pl_16, pl_17, pl_18, pl_19, pl_20, pl_21, pl_30, pl_40, pl_50, pl_51, pl_60, pl_70, pl_71, pl_99, pl_100, pl_160, pl_240, pl_256, pl_300, pl_999, pl_1000, pl_1280, pl_9999, pl_10000, pu_neg, pu_nn, pu_le, pu_lt, pu_eq, pu_cl, pu_in, pu_g, pu_let, pu_bind, pu_m1, pu_add, pu_mul, Nat.not_lt_zero, if_false, if_true, Nat.zero_le, pu_d2, pu_d100, pu_em1, reduceIte, Nat.reduceEqDiff, Nat.reduceLT, Nat.reduceLeDiff, Nat.reduceAdd, Nat.reduceMul, Nat.reduceSub, not_true_eq_false, not_false_eq_true, and_true, true_and, and_false, false_and, or_true, true_or, or_false, false_or, Nat.lt_irrefl, Nat.le_refl, Nat.add_zero, Bool.false_eq_true, k, is_priceOf h hI hl, up_moveTo h hI hl, k9, pk_sub e2]
  rw [if_pos e3]
  exact ⟨_, rfl, ((IslU.rf h).up (r := 6) _ (by omega) (by omega) (by omega)).up0 _ (by omega) (by omega)⟩
end ISM
/-! draws -/
def sd1 (s : Nat) : Nat := un (seedN (nI s))
def drN (s p : Nat) : Nat := sd1 s / 65536 % p
def drT (T : is_T) : is_T := nm_up T 0 11 (sd1 (T 0 11))
theorem dr_I {T : is_T} (hI : IslI T) : IslI (drT T) := hI.up (ok_0b _)
theorem dr_6 (T : is_T) : drT T 0 6 = T 0 6 := by
  unfold drT
  rw [up_at, if_neg (by omega)]
theorem dr_8 (T : is_T) : drT T 0 8 = T 0 8 := by
  unfold drT
  rw [up_at, if_neg (by omega)]
theorem un_lt (x : Int32) : un x < 2 ^ 32 := x.toBitVec.isLt
theorem drw_N (s : Nat) {p : Nat} (h0 : 0 < p) (hp : p < 2147483648) : drwN (seedN (nI s)) (nI p) = nI (drN s p) := by
  unfold drwN drN sd1
  have hu := un_lt (seedN (nI s))
  have e : ∀ x : Int32, un x < 2 ^ 32 → UInt32.toInt32 (Int32.toUInt32 x >>> (Int32.toUInt32 16 &&& Int32.toUInt32 31)) = nI (un x / 65536) := by
    intro x hx
    have := pk_ushrN hx 16 16 (by decide +kernel)
    rw [nI_un] at this
    exact this
  rw [e _ hu]
  have h16 : un (seedN (nI s)) / 65536 < 2 ^ 31 := by
    have : un (seedN (nI s)) / 65536 ≤ un (seedN (nI s)) := Nat.div_le_self _ _
    omega
  exact pk_rem h16 h0 hp
section ISN
variable {σ : nm_St} {o : Nat} {T : is_T}
theorem is_drawN (h : IslR σ o T) {p : Nat} (h0 : 0 < p) (hp : p < 2147483648) : ∃ τ, Is_draw o (nI p) σ = some (nI (drN (T 0 11) p), τ) ∧ IslU σ o τ (drT T) := by
  refine ⟨_, ?_, (IslU.rf h).up0 (j := 11) _ (by omega) (by omega)⟩
  rw [is_draw (nI p) (nI_nle h0 (by omega)), h.se, drw_N _ h0 hp]
  unfold sd1
  rw [nI_un]
theorem md_drawN (h : MdR σ T) {p : Nat} (h0 : 0 < p) (hp : p < 2147483648) : ∃ τ, Md_draw (nI p) σ = some (nI (drN (T 0 11) p), τ) ∧ MdU σ τ (drT T) := by
  refine ⟨_, ?_, (MdU.rf h).up0 (j := 5) _ (by omega)⟩
  rw [md_draw (nI p) (nI_nle h0 (by omega)), h.se, drw_N _ h0 hp]
  unfold sd1
  rw [nI_un]
end ISN
