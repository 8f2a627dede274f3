/-! the model's searches, and the calls -/
section MSR
variable {σ : nm_St} {T : is_T}
theorem md_shl (h : MdR σ T) (hI : IslI T) : (nI 1 <<< (σ.1 70 0 &&& 31)) = nI (2 ^ T 0 6) := by
  have hc := hI.1
  rw [h.c, pu_shl _ (by omega)]
theorem or_bts {f : Nat → Bool} {x : Nat} (hx : x < 256) : x ||| bts f 8 = bts (fun i => x.testBit i || f i) 8 := by
  refine bts_eq (n := 8) (or_lt8 hx (bts8 f)) (fun i hi => ?_)
  rw [Nat.testBit_or, bts8_tb _ hi]
theorem md_mk (h : MdR σ T) (hI : IslI T) {x : Nat} (hx : x < 2 ^ T 0 6) : Md_isMade (nI (x ||| bts (atB T 1) 8)) σ = some (nI (if mkB T x then 1 else 0), σ) := by
  have h2 := pu_p2 hI.1
  rw [or_bts (by omega), md_isMade h hI (f := fun i => x.testBit i || atB T 1 i) (fun i hi => by
    rw [at_out hi, Nat.testBit_lt_two_pow (Nat.lt_of_lt_of_le hx (Nat.pow_le_pow_right (by omega) hi))]; rfl)]
  unfold madeN mkB
  rw [orF_or]
  have e : (orF T (fun i => x.testBit i) 8 ||| orF T (atB T 1) 8 = 2 ^ T 0 7 - 1) = (knS T x ||| abK T = 2 ^ T 0 7 - 1) := rfl
  by_cases z : knS T x ||| abK T = 2 ^ T 0 7 - 1
  · rw [if_pos (e ▸ z), decide_eq_true z]; rfl
  · rw [if_neg (e ▸ z), decide_eq_false z]; rfl
theorem md_kn2 (h : MdR σ T) (hI : IslI T) {x : Nat} (hx : x < 2 ^ T 0 6) : Md_knownBy (nI (x ||| bts (atB T 1) 8)) σ = some (nI (knS T x ||| abK T), σ) := by
  have h2 := pu_p2 hI.1
  rw [or_bts (by omega), md_kn h hI (f := fun i => x.testBit i || atB T 1 i) (fun i hi => by
    rw [at_out hi, Nat.testBit_lt_two_pow (Nat.lt_of_lt_of_le hx (Nat.pow_le_pow_right (by omega) hi))]; rfl), orF_or]
  rfl
theorem md_mk0 (h : MdR σ T) (hI : IslI T) {x : Nat} (hx : x < 2 ^ T 0 6) : Md_isMade (nI x) σ = some (nI (if knS T x = 2 ^ T 0 7 - 1 then 1 else 0), σ) := by
  have h2 := pu_p2 hI.1
  have e : x = bts (fun i => x.testBit i) 8 := bts_eq (n := 8) (by omega) (fun i hi => rfl)
  conv => lhs; rw [e]
  rw [md_isMade h hI (f := fun i => x.testBit i) (fun i hi => Nat.testBit_lt_two_pow (Nat.lt_of_lt_of_le hx (Nat.pow_le_pow_right (by omega) hi)))]
  rfl
theorem md_prices (h : MdR σ T) (hI : IslI T) {x : Nat} (hx : x < 2 ^ T 0 6) : Md_prices (nI x) σ = some (nI (prS T x), σ) := by
  have hc := hI.1
  have h2 := pu_p2 hI.1
  unfold Md_prices prS
  rw [prF_to (c := T 0 6) hx 8 hc]
  simp only [pl_0, pl_1, pl_2, pl_3, pl_4, pl_5, pl_6, pl_7, pl_8, pl_9, pl_10, pl_11, pl_12, pl_13, pl_14, pl_15, pl_16, pl_17, pl_18, pl_19, pl_20, pl_21, pl_30, pl_40, pl_50, pl_51, pl_60, pl_70, pl_71, pl_99, pl_100, pl_160, pl_240, pl_256, pl_300, pl_999, pl_1000, pl_1280, pl_9999, pl_10000]
  refine lp_Q (fun n i (_ : Unit) => Md_prices_l4 _ n (nI x) (nI (prF T x i)) (nI i) σ) (T 0 6) (fun i _ => True) (fun r => r = some (nI (prF T x (T 0 6)), σ)) ?_ ?_ 400 0 () (by omega) trivial (by omega)
  · intro n i _ hi _ ih
    have hs := ih () trivial
    have hpl := price_le hI (show i < 8 by omega)
    have hpf := prF_le hI x i (by omega)
    have hk := md_has (σ := σ) (a := x) (m := i) (by omega) (by omega)
    rw [show prF T x (i + 1) = if x.testBit i then prF T x i + price T i else prF T x i from rfl] at hs
    cases e : x.testBit i with
    | true =>
      rw [e] at hs hk
      rw [if_pos rfl] at hs hk
      simp (disch := omega) only [Md_prices_l4, pl_0, pl_1, pl_2, pl_3, pl_4, pl_5, pl_6, pl_7, pl_8, pl_9, pl_10, pl_11, pl_12, pl_13, pl_14, pl_15, pl_16, pl_17, pl_18, pl_19, pl_20, pl_21, pl_30, pl_40, pl_50, pl_51, pl_60, pl_70, pl_71, pl_99, pl_100, pl_160, pl_240, pl_256, pl_300, pl_999, pl_1000, pl_1280, pl_9999, pl_10000, pu_neg, pu_nn, pu_le, pu_lt, pu_eq, pu_cl, pu_in, pu_g, ↓pu_let, ↓pu_bind, pu_m1, pu_add, pu_mul, Nat.not_lt_zero, if_false, if_true, Nat.zero_le, pu_d2, pu_d100, pu_em1, ↓reduceIte, Nat.reduceEqDiff, Nat.reduceLT, Nat.reduceLeDiff, Nat.reduceAdd, Nat.reduceMul, Nat.reduceSub, not_true_eq_false, not_false_eq_true, and_true, true_and, and_false, false_and, or_true, true_or, or_false, false_or, Nat.lt_irrefl, Nat.le_refl, Nat.add_zero, Bool.false_eq_true, ↓pu_gI, nd_le, nd_leT, nd_lt, nd_ltT, nd_eq, nd_eqT, h.c, hk, md_price h hI (show i < 8 by omega)]
      exact hs
    | false =>
      rw [e] at hs hk
      rw [if_neg (by decide)] at hs hk
      simp (disch := omega) only [Md_prices_l4, pl_0, pl_1, pl_2, pl_3, pl_4, pl_5, pl_6, pl_7, pl_8, pl_9, pl_10, pl_11, pl_12, pl_13, pl_14, pl_15, pl_16, pl_17, pl_18, pl_19, pl_20, pl_21, pl_30, pl_40, pl_50, pl_51, pl_60, pl_70, pl_71, pl_99, pl_100, pl_160, pl_240, pl_256, pl_300, pl_999, pl_1000, pl_1280, pl_9999, pl_10000, pu_neg, pu_nn, pu_le, pu_lt, pu_eq, pu_cl, pu_in, pu_g, ↓pu_let, ↓pu_bind, pu_m1, pu_add, pu_mul, Nat.not_lt_zero, if_false, if_true, Nat.zero_le, pu_d2, pu_d100, pu_em1, ↓reduceIte, Nat.reduceEqDiff, Nat.reduceLT, Nat.reduceLeDiff, Nat.reduceAdd, Nat.reduceMul, Nat.reduceSub, not_true_eq_false, not_false_eq_true, and_true, true_and, and_false, false_and, or_true, true_or, or_false, false_or, Nat.lt_irrefl, Nat.le_refl, Nat.add_zero, Bool.false_eq_true, ↓pu_gI, nd_le, nd_leT, nd_lt, nd_ltT, nd_eq, nd_eqT, h.c, hk]
      exact hs
  · intro n _ _
    simp (disch := omega) only [Md_prices_l4, pl_0, pl_1, pl_2, pl_3, pl_4, pl_5, pl_6, pl_7, pl_8, pl_9, pl_10, pl_11, pl_12, pl_13, pl_14, pl_15, pl_16, pl_17, pl_18, pl_19, pl_20, pl_21, pl_30, pl_40, pl_50, pl_51, pl_60, pl_70, pl_71, pl_99, pl_100, pl_160, pl_240, pl_256, pl_300, pl_999, pl_1000, pl_1280, pl_9999, pl_10000, pu_neg, pu_nn, pu_le, pu_lt, pu_eq, pu_cl, pu_in, pu_g, ↓pu_let, ↓pu_bind, pu_m1, pu_add, pu_mul, Nat.not_lt_zero, if_false, if_true, Nat.zero_le, pu_d2, pu_d100, pu_em1, ↓reduceIte, Nat.reduceEqDiff, Nat.reduceLT, Nat.reduceLeDiff, Nat.reduceAdd, Nat.reduceMul, Nat.reduceSub, not_true_eq_false, not_false_eq_true, and_true, true_and, and_false, false_and, or_true, true_or, or_false, false_or, Nat.lt_irrefl, Nat.le_refl, Nat.add_zero, Bool.false_eq_true, ↓pu_gI, nd_le, nd_leT, nd_lt, nd_ltT, nd_eq, nd_eqT, h.c]
/-- not a set of such: passed over -/
theorem su_c {f : Nat → Bool} {x : Nat} (hx : x < 256) : (nI (andN x (bts f 8)) = nI 0) = (suB f x = true) := by
  have := andN_le x (bts f 8)
  rw [pu_eq (by omega) (by omega)]
  unfold suB
  simp
theorem fw_inv (p : Nat → Bool) : ∀ n, n ≤ 256 → (fdM (fwG T) p (0, 9) n).1 ≤ n ∧ (((fdM (fwG T) p (0, 9) n).1 = 0 ∧ (fdM (fwG T) p (0, 9) n).2 = 9) ∨ ((fdM (fwG T) p (0, 9) n).1 ≠ 0 ∧ (fdM (fwG T) p (0, 9) n).2 = pcN ((fdM (fwG T) p (0, 9) n).1 - 1))) := by
  intro n
  induction n with
  | zero => intro _; exact ⟨Nat.le_refl _, Or.inl ⟨rfl, rfl⟩⟩
  | succ n ih =>
    intro hn
    obtain ⟨i1, i2⟩ := ih (by omega)
    cases e : p n with
    | false => rw [fdM_f e]; exact ⟨by omega, i2⟩
    | true =>
      rw [fdM_t e]
      cases e2 : (mkB T n && decide (pcN n < (fdM (fwG T) p (0, 9) n).2)) with
      | true => rw [fwG_t e2]; exact ⟨Nat.le_refl _, Or.inr ⟨Nat.succ_ne_zero _, rfl⟩⟩
      | false => rw [fwG_f e2]; exact ⟨by omega, i2⟩
theorem md_fewest (h : MdR σ T) (hI : IslI T) : Md_fewest σ = some (nI (fdM (fwG T) (suB (atB T 0)) (0, 9) (2 ^ T 0 6)).1 - nI 1, σ) := by
  have hc := hI.1
  have h2 := pu_p2 hI.1
  have hb := bts8 (atB T 0)
  unfold Md_fewest
  simp only [pl_0, pl_1, pl_2, pl_3, pl_4, pl_5, pl_6, pl_7, pl_8, pl_9, pl_10, pl_11, pl_12, pl_13, pl_14, pl_15, pl_16, pl_17, pl_18, pl_19, pl_20, pl_21, pl_30, pl_40, pl_50, pl_51, pl_60, pl_70, pl_71, pl_99, pl_100, pl_160, pl_240, pl_256, pl_300, pl_999, pl_1000, pl_1280, pl_9999, pl_10000, md_those h hI (show 0 ≤ 3 by omega), md_those h hI (show 1 ≤ 3 by omega), pu_bind]
  rw [← pu_01]
  refine lp_Q (fun n i (_ : Unit) => Md_fewest_l17 _ n (nI (bts (atB T 0) 8)) (nI (bts (atB T 1) 8)) (nI (fdM (fwG T) (suB (atB T 0)) (0, 9) i).1 - nI 1) (nI i) σ) (2 ^ T 0 6) (fun i _ => True) (fun r => r = some (nI (fdM (fwG T) (suB (atB T 0)) (0, 9) (2 ^ T 0 6)).1 - nI 1, σ)) ?_ ?_ 400 0 () (by omega) trivial (by omega)
  · intro n i _ hi _ ih
    have hs := ih () trivial
    have hsh := md_shl h hI
    have km := md_mk h hI hi
    obtain ⟨i1, i2⟩ := fw_inv (T := T) (suB (atB T 0)) i (by omega)
    cases e : suB (atB T 0) i with
    | false =>
      rw [fdM_f e] at hs
      simp (disch := omega) only [Md_fewest_l17, pl_0, pl_1, pl_2, pl_3, pl_4, pl_5, pl_6, pl_7, pl_8, pl_9, pl_10, pl_11, pl_12, pl_13, pl_14, pl_15, pl_16, pl_17, pl_18, pl_19, pl_20, pl_21, pl_30, pl_40, pl_50, pl_51, pl_60, pl_70, pl_71, pl_99, pl_100, pl_160, pl_240, pl_256, pl_300, pl_999, pl_1000, pl_1280, pl_9999, pl_10000, pu_neg, pu_nn, pu_le, pu_lt, pu_eq, pu_cl, pu_in, pu_g, ↓pu_let, ↓pu_bind, pu_m1, pu_add, pu_mul, Nat.not_lt_zero, if_false, if_true, Nat.zero_le, pu_d2, pu_d100, pu_em1, ↓reduceIte, Nat.reduceEqDiff, Nat.reduceLT, Nat.reduceLeDiff, Nat.reduceAdd, Nat.reduceMul, Nat.reduceSub, not_true_eq_false, not_false_eq_true, and_true, true_and, and_false, false_and, or_true, true_or, or_false, false_or, Nat.lt_irrefl, Nat.le_refl, Nat.add_zero, Bool.false_eq_true, ↓pu_gI, nd_le, nd_leT, nd_lt, nd_ltT, nd_eq, nd_eqT, hsh, pu_andm, su_c (show i < 256 by omega), e]
      exact hs
    | true =>
      rw [fdM_t e] at hs
      have hpc := pcN_le i
      generalize fdM (fwG T) (suB (atB T 0)) (0, 9) i = s at *
      cases m : mkB T i with
      | false =>
        rw [m] at km
        rw [fwG_f (by rw [m]; rfl)] at hs
        simp (disch := omega) only [Md_fewest_l17, pl_0, pl_1, pl_2, pl_3, pl_4, pl_5, pl_6, pl_7, pl_8, pl_9, pl_10, pl_11, pl_12, pl_13, pl_14, pl_15, pl_16, pl_17, pl_18, pl_19, pl_20, pl_21, pl_30, pl_40, pl_50, pl_51, pl_60, pl_70, pl_71, pl_99, pl_100, pl_160, pl_240, pl_256, pl_300, pl_999, pl_1000, pl_1280, pl_9999, pl_10000, pu_neg, pu_nn, pu_le, pu_lt, pu_eq, pu_cl, pu_in, pu_g, ↓pu_let, ↓pu_bind, pu_m1, pu_add, pu_mul, Nat.not_lt_zero, if_false, if_true, Nat.zero_le, pu_d2, pu_d100, pu_em1, ↓reduceIte, Nat.reduceEqDiff, Nat.reduceLT, Nat.reduceLeDiff, Nat.reduceAdd, Nat.reduceMul, Nat.reduceSub, not_true_eq_false, not_false_eq_true, and_true, true_and, and_false, false_and, or_true, true_or, or_false, false_or, Nat.lt_irrefl, Nat.le_refl, Nat.add_zero, Bool.false_eq_true, ↓pu_gI, nd_le, nd_leT, nd_lt, nd_ltT, nd_eq, nd_eqT, hsh, pu_andm, su_c (show i < 256 by omega), e, fa_or, km]
        exact hs
      | true =>
        rw [m] at km
        rcases i2 with ⟨a1, a2⟩ | ⟨a1, a2⟩
        · rw [fwG_t (by rw [m, a2, decide_eq_true (show pcN i < 9 by omega)]; rfl)] at hs
          simp only [pu_pred] at hs
          rw [a1, pu_01]
          simp (disch := omega) only [Md_fewest_l17, pl_0, pl_1, pl_2, pl_3, pl_4, pl_5, pl_6, pl_7, pl_8, pl_9, pl_10, pl_11, pl_12, pl_13, pl_14, pl_15, pl_16, pl_17, pl_18, pl_19, pl_20, pl_21, pl_30, pl_40, pl_50, pl_51, pl_60, pl_70, pl_71, pl_99, pl_100, pl_160, pl_240, pl_256, pl_300, pl_999, pl_1000, pl_1280, pl_9999, pl_10000, pu_neg, pu_nn, pu_le, pu_lt, pu_eq, pu_cl, pu_in, pu_g, ↓pu_let, ↓pu_bind, pu_m1, pu_add, pu_mul, Nat.not_lt_zero, if_false, if_true, Nat.zero_le, pu_d2, pu_d100, pu_em1, ↓reduceIte, Nat.reduceEqDiff, Nat.reduceLT, Nat.reduceLeDiff, Nat.reduceAdd, Nat.reduceMul, Nat.reduceSub, not_true_eq_false, not_false_eq_true, and_true, true_and, and_false, false_and, or_true, true_or, or_false, false_or, Nat.lt_irrefl, Nat.le_refl, Nat.add_zero, Bool.false_eq_true, ↓pu_gI, nd_le, nd_leT, nd_lt, nd_ltT, nd_eq, nd_eqT, hsh, pu_andm, su_c (show i < 256 by omega), e, fa_or, km]
          exact hs
        · obtain ⟨t, ht⟩ : ∃ t, s.1 = t + 1 := ⟨s.1 - 1, by omega⟩
          rw [ht, Nat.add_sub_cancel] at a2
          have hpt := pcN_le t
          rw [ht, pu_pred]
          by_cases z : pcN i < s.2
          · rw [fwG_t (by rw [m, decide_eq_true z]; rfl)] at hs
            simp only [pu_pred] at hs
            rw [a2] at z
            simp (disch := omega) only [Md_fewest_l17, pl_0, pl_1, pl_2, pl_3, pl_4, pl_5, pl_6, pl_7, pl_8, pl_9, pl_10, pl_11, pl_12, pl_13, pl_14, pl_15, pl_16, pl_17, pl_18, pl_19, pl_20, pl_21, pl_30, pl_40, pl_50, pl_51, pl_60, pl_70, pl_71, pl_99, pl_100, pl_160, pl_240, pl_256, pl_300, pl_999, pl_1000, pl_1280, pl_9999, pl_10000, pu_neg, pu_nn, pu_le, pu_lt, pu_eq, pu_cl, pu_in, pu_g, ↓pu_let, ↓pu_bind, pu_m1, pu_add, pu_mul, Nat.not_lt_zero, if_false, if_true, Nat.zero_le, pu_d2, pu_d100, pu_em1, ↓reduceIte, Nat.reduceEqDiff, Nat.reduceLT, Nat.reduceLeDiff, Nat.reduceAdd, Nat.reduceMul, Nat.reduceSub, not_true_eq_false, not_false_eq_true, and_true, true_and, and_false, false_and, or_true, true_or, or_false, false_or, Nat.lt_irrefl, Nat.le_refl, Nat.add_zero, Bool.false_eq_true, ↓pu_gI, nd_le, nd_leT, nd_lt, nd_ltT, nd_eq, nd_eqT, hsh, pu_andm, su_c (show i < 256 by omega), e, fa_or, km, md_ones]
            exact hs
          · rw [fwG_f (by rw [m, decide_eq_false z]; rfl), ht, pu_pred] at hs
            rw [a2] at z
            simp (disch := omega) only [Md_fewest_l17, pl_0, pl_1, pl_2, pl_3, pl_4, pl_5, pl_6, pl_7, pl_8, pl_9, pl_10, pl_11, pl_12, pl_13, pl_14, pl_15, pl_16, pl_17, pl_18, pl_19, pl_20, pl_21, pl_30, pl_40, pl_50, pl_51, pl_60, pl_70, pl_71, pl_99, pl_100, pl_160, pl_240, pl_256, pl_300, pl_999, pl_1000, pl_1280, pl_9999, pl_10000, pu_neg, pu_nn, pu_le, pu_lt, pu_eq, pu_cl, pu_in, pu_g, ↓pu_let, ↓pu_bind, pu_m1, pu_add, pu_mul, Nat.not_lt_zero, if_false, if_true, Nat.zero_le, pu_d2, pu_d100, pu_em1, ↓reduceIte, Nat.reduceEqDiff, Nat.reduceLT, Nat.reduceLeDiff, Nat.reduceAdd, Nat.reduceMul, Nat.reduceSub, not_true_eq_false, not_false_eq_true, and_true, true_and, and_false, false_and, or_true, true_or, or_false, false_or, Nat.lt_irrefl, Nat.le_refl, Nat.add_zero, Bool.false_eq_true, ↓pu_gI, nd_le, nd_leT, nd_lt, nd_ltT, nd_eq, nd_eqT, hsh, pu_andm, su_c (show i < 256 by omega), e, fa_or, km, md_ones]
            exact hs
  · intro n _ _
    have hsh := md_shl h hI
    simp (disch := omega) only [Md_fewest_l17, pl_0, pl_1, pl_2, pl_3, pl_4, pl_5, pl_6, pl_7, pl_8, pl_9, pl_10, pl_11, pl_12, pl_13, pl_14, pl_15, pl_16, pl_17, pl_18, pl_19, pl_20, pl_21, pl_30, pl_40, pl_50, pl_51, pl_60, pl_70, pl_71, pl_99, pl_100, pl_160, pl_240, pl_256, pl_300, pl_999, pl_1000, pl_1280, pl_9999, pl_10000, pu_neg, pu_nn, pu_le, pu_lt, pu_eq, pu_cl, pu_in, pu_g, ↓pu_let, ↓pu_bind, pu_m1, pu_add, pu_mul, Nat.not_lt_zero, if_false, if_true, Nat.zero_le, pu_d2, pu_d100, pu_em1, ↓reduceIte, Nat.reduceEqDiff, Nat.reduceLT, Nat.reduceLeDiff, Nat.reduceAdd, Nat.reduceMul, Nat.reduceSub, not_true_eq_false, not_false_eq_true, and_true, true_and, and_false, false_and, or_true, true_or, or_false, false_or, Nat.lt_irrefl, Nat.le_refl, Nat.add_zero, Bool.false_eq_true, ↓pu_gI, nd_le, nd_leT, nd_lt, nd_ltT, nd_eq, nd_eqT, hsh]
theorem ch_le (p : Nat → Bool) : ∀ n, fdM (chG T) p 0 n ≤ n := by
  intro n
  induction n with
  | zero => exact Nat.le_refl _
  | succ n ih =>
    cases e : p n with
    | false => rw [fdM_f e]; omega
    | true =>
      rw [fdM_t e]
      cases e2 : (mkB T n && (decide (fdM (chG T) p 0 n = 0) || decide (prS T n < prS T (fdM (chG T) p 0 n - 1)))) with
      | true => rw [chG_t e2]; exact Nat.le_refl _
      | false => rw [chG_f e2]; omega
def chS (T : is_T) : Nat := fdM (chG T) (suB (atB T 0)) 0 (2 ^ T 0 6)
theorem md_cheapestSet (h : MdR σ T) (hI : IslI T) : Md_cheapestSet σ = some (nI (chS T) - nI 1, σ) := by
  have hc := hI.1
  have h2 := pu_p2 hI.1
  have hb := bts8 (atB T 0)
  unfold Md_cheapestSet
  simp only [pl_0, pl_1, pl_2, pl_3, pl_4, pl_5, pl_6, pl_7, pl_8, pl_9, pl_10, pl_11, pl_12, pl_13, pl_14, pl_15, pl_16, pl_17, pl_18, pl_19, pl_20, pl_21, pl_30, pl_40, pl_50, pl_51, pl_60, pl_70, pl_71, pl_99, pl_100, pl_160, pl_240, pl_256, pl_300, pl_999, pl_1000, pl_1280, pl_9999, pl_10000, md_those h hI (show 0 ≤ 3 by omega), md_those h hI (show 1 ≤ 3 by omega), pu_bind]
  rw [← pu_01]
  refine lp_Q (fun n i (b : Nat) => Md_cheapestSet_l20 _ n (nI (bts (atB T 0) 8)) (nI (bts (atB T 1) 8)) (nI (fdM (chG T) (suB (atB T 0)) 0 i) - nI 1) (nI b) (nI i) σ) (2 ^ T 0 6) (fun i b => fdM (chG T) (suB (atB T 0)) 0 i ≠ 0 → b = prS T (fdM (chG T) (suB (atB T 0)) 0 i - 1)) (fun r => r = some (nI (chS T) - nI 1, σ)) ?_ ?_ 400 0 0 (by omega) (fun q => absurd rfl q) (by omega)
  · intro n i b hi hp ih
    have hsh := md_shl h hI
    have km := md_mk h hI hi
    have kp := md_prices h hI hi
    have hpr := prS_le hI i
    have i1 := ch_le (T := T) (suB (atB T 0)) i
    cases e : suB (atB T 0) i with
    | false =>
      have hs := ih b (by rw [fdM_f e]; exact hp)
      rw [fdM_f e] at hs
      simp (disch := omega) only [Md_cheapestSet_l20, pl_0, pl_1, pl_2, pl_3, pl_4, pl_5, pl_6, pl_7, pl_8, pl_9, pl_10, pl_11, pl_12, pl_13, pl_14, pl_15, pl_16, pl_17, pl_18, pl_19, pl_20, pl_21, pl_30, pl_40, pl_50, pl_51, pl_60, pl_70, pl_71, pl_99, pl_100, pl_160, pl_240, pl_256, pl_300, pl_999, pl_1000, pl_1280, pl_9999, pl_10000, pu_neg, pu_nn, pu_le, pu_lt, pu_eq, pu_cl, pu_in, pu_g, ↓pu_let, ↓pu_bind, pu_m1, pu_add, pu_mul, Nat.not_lt_zero, if_false, if_true, Nat.zero_le, pu_d2, pu_d100, pu_em1, ↓reduceIte, Nat.reduceEqDiff, Nat.reduceLT, Nat.reduceLeDiff, Nat.reduceAdd, Nat.reduceMul, Nat.reduceSub, not_true_eq_false, not_false_eq_true, and_true, true_and, and_false, false_and, or_true, true_or, or_false, false_or, Nat.lt_irrefl, Nat.le_refl, Nat.add_zero, Bool.false_eq_true, ↓pu_gI, nd_le, nd_leT, nd_lt, nd_ltT, nd_eq, nd_eqT, hsh, pu_andm, su_c (show i < 256 by omega), e]
      exact hs
    | true =>
      rw [fdM_t e] at ih
      generalize fdM (chG T) (suB (atB T 0)) 0 i = s at *
      cases m : mkB T i with
      | false =>
        rw [m] at km
        rw [chG_f (by rw [m]; rfl)] at ih
        have hs := ih b hp
        simp (disch := omega) only [Md_cheapestSet_l20, pl_0, pl_1, pl_2, pl_3, pl_4, pl_5, pl_6, pl_7, pl_8, pl_9, pl_10, pl_11, pl_12, pl_13, pl_14, pl_15, pl_16, pl_17, pl_18, pl_19, pl_20, pl_21, pl_30, pl_40, pl_50, pl_51, pl_60, pl_70, pl_71, pl_99, pl_100, pl_160, pl_240, pl_256, pl_300, pl_999, pl_1000, pl_1280, pl_9999, pl_10000, pu_neg, pu_nn, pu_le, pu_lt, pu_eq, pu_cl, pu_in, pu_g, ↓pu_let, ↓pu_bind, pu_m1, pu_add, pu_mul, Nat.not_lt_zero, if_false, if_true, Nat.zero_le, pu_d2, pu_d100, pu_em1, ↓reduceIte, Nat.reduceEqDiff, Nat.reduceLT, Nat.reduceLeDiff, Nat.reduceAdd, Nat.reduceMul, Nat.reduceSub, not_true_eq_false, not_false_eq_true, and_true, true_and, and_false, false_and, or_true, true_or, or_false, false_or, Nat.lt_irrefl, Nat.le_refl, Nat.add_zero, Bool.false_eq_true, ↓pu_gI, nd_le, nd_leT, nd_lt, nd_ltT, nd_eq, nd_eqT, hsh, pu_andm, su_c (show i < 256 by omega), e, fa_or, km]
        exact hs
      | true =>
        rw [m] at km
        by_cases a1 : s = 0
        · rw [chG_t (by rw [m, decide_eq_true a1]; rfl)] at ih
          have hs := ih (prS T i) (fun _ => rfl)
          simp only [pu_pred] at hs
          rw [a1, pu_01]
          simp (disch := omega) only [Md_cheapestSet_l20, Md_cheapestSet_j73, pl_0, pl_1, pl_2, pl_3, pl_4, pl_5, pl_6, pl_7, pl_8, pl_9, pl_10, pl_11, pl_12, pl_13, pl_14, pl_15, pl_16, pl_17, pl_18, pl_19, pl_20, pl_21, pl_30, pl_40, pl_50, pl_51, pl_60, pl_70, pl_71, pl_99, pl_100, pl_160, pl_240, pl_256, pl_300, pl_999, pl_1000, pl_1280, pl_9999, pl_10000, pu_neg, pu_nn, pu_le, pu_lt, pu_eq, pu_cl, pu_in, pu_g, ↓pu_let, ↓pu_bind, pu_m1, pu_add, pu_mul, Nat.not_lt_zero, if_false, if_true, Nat.zero_le, pu_d2, pu_d100, pu_em1, ↓reduceIte, Nat.reduceEqDiff, Nat.reduceLT, Nat.reduceLeDiff, Nat.reduceAdd, Nat.reduceMul, Nat.reduceSub, not_true_eq_false, not_false_eq_true, and_true, true_and, and_false, false_and, or_true, true_or, or_false, false_or, Nat.lt_irrefl, Nat.le_refl, Nat.add_zero, Bool.false_eq_true, ↓pu_gI, nd_le, nd_leT, nd_lt, nd_ltT, nd_eq, nd_eqT, hsh, pu_andm, su_c (show i < 256 by omega), e, fa_or, km, kp]
          exact hs
        · have hb2 := hp a1
          obtain ⟨t, ht⟩ : ∃ t, s = t + 1 := ⟨s - 1, by omega⟩
          have hpt := prS_le hI t
          rw [ht, pu_pred]
          by_cases z : prS T i < prS T (s - 1)
          · rw [chG_t (by rw [m, decide_eq_true z, Bool.or_true]; rfl)] at ih
            have hs := ih (prS T i) (fun _ => rfl)
            simp only [pu_pred] at hs
            rw [← hb2] at z
            rw [ht, Nat.add_sub_cancel] at hb2
            simp (disch := omega) only [Md_cheapestSet_l20, Md_cheapestSet_j73, pl_0, pl_1, pl_2, pl_3, pl_4, pl_5, pl_6, pl_7, pl_8, pl_9, pl_10, pl_11, pl_12, pl_13, pl_14, pl_15, pl_16, pl_17, pl_18, pl_19, pl_20, pl_21, pl_30, pl_40, pl_50, pl_51, pl_60, pl_70, pl_71, pl_99, pl_100, pl_160, pl_240, pl_256, pl_300, pl_999, pl_1000, pl_1280, pl_9999, pl_10000, pu_neg, pu_nn, pu_le, pu_lt, pu_eq, pu_cl, pu_in, pu_g, ↓pu_let, ↓pu_bind, pu_m1, pu_add, pu_mul, Nat.not_lt_zero, if_false, if_true, Nat.zero_le, pu_d2, pu_d100, pu_em1, ↓reduceIte, Nat.reduceEqDiff, Nat.reduceLT, Nat.reduceLeDiff, Nat.reduceAdd, Nat.reduceMul, Nat.reduceSub, not_true_eq_false, not_false_eq_true, and_true, true_and, and_false, false_and, or_true, true_or, or_false, false_or, Nat.lt_irrefl, Nat.le_refl, Nat.add_zero, Bool.false_eq_true, ↓pu_gI, nd_le, nd_leT, nd_lt, nd_ltT, nd_eq, nd_eqT, hsh, pu_andm, su_c (show i < 256 by omega), e, fa_or, km, kp]
            exact hs
          · rw [chG_f (by rw [m, decide_eq_false z, decide_eq_false a1]; rfl)] at ih
            have hs := ih b hp
            rw [ht, pu_pred] at hs
            rw [← hb2] at z
            rw [ht, Nat.add_sub_cancel] at hb2
            simp (disch := omega) only [Md_cheapestSet_l20, Md_cheapestSet_j73, pl_0, pl_1, pl_2, pl_3, pl_4, pl_5, pl_6, pl_7, pl_8, pl_9, pl_10, pl_11, pl_12, pl_13, pl_14, pl_15, pl_16, pl_17, pl_18, pl_19, pl_20, pl_21, pl_30, pl_40, pl_50, pl_51, pl_60, pl_70, pl_71, pl_99, pl_100, pl_160, pl_240, pl_256, pl_300, pl_999, pl_1000, pl_1280, pl_9999, pl_10000, pu_neg, pu_nn, pu_le, pu_lt, pu_eq, pu_cl, pu_in, pu_g, ↓pu_let, ↓pu_bind, pu_m1, pu_add, pu_mul, Nat.not_lt_zero, if_false, if_true, Nat.zero_le, pu_d2, pu_d100, pu_em1, ↓reduceIte, Nat.reduceEqDiff, Nat.reduceLT, Nat.reduceLeDiff, Nat.reduceAdd, Nat.reduceMul, Nat.reduceSub, not_true_eq_false, not_false_eq_true, and_true, true_and, and_false, false_and, or_true, true_or, or_false, false_or, Nat.lt_irrefl, Nat.le_refl, Nat.add_zero, Bool.false_eq_true, ↓pu_gI, nd_le, nd_leT, nd_lt, nd_ltT, nd_eq, nd_eqT, hsh, pu_andm, su_c (show i < 256 by omega), e, fa_or, km, kp]
            exact hs
  · intro n b _
    have hsh := md_shl h hI
    simp (disch := omega) only [Md_cheapestSet_l20, pl_0, pl_1, pl_2, pl_3, pl_4, pl_5, pl_6, pl_7, pl_8, pl_9, pl_10, pl_11, pl_12, pl_13, pl_14, pl_15, pl_16, pl_17, pl_18, pl_19, pl_20, pl_21, pl_30, pl_40, pl_50, pl_51, pl_60, pl_70, pl_71, pl_99, pl_100, pl_160, pl_240, pl_256, pl_300, pl_999, pl_1000, pl_1280, pl_9999, pl_10000, pu_neg, pu_nn, pu_le, pu_lt, pu_eq, pu_cl, pu_in, pu_g, ↓pu_let, ↓pu_bind, pu_m1, pu_add, pu_mul, Nat.not_lt_zero, if_false, if_true, Nat.zero_le, pu_d2, pu_d100, pu_em1, ↓reduceIte, Nat.reduceEqDiff, Nat.reduceLT, Nat.reduceLeDiff, Nat.reduceAdd, Nat.reduceMul, Nat.reduceSub, not_true_eq_false, not_false_eq_true, and_true, true_and, and_false, false_and, or_true, true_or, or_false, false_or, Nat.lt_irrefl, Nat.le_refl, Nat.add_zero, Bool.false_eq_true, ↓pu_gI, nd_le, nd_leT, nd_lt, nd_ltT, nd_eq, nd_eqT, hsh]
    rfl
theorem md_soldL (h : MdR σ T) (hI : IslI T) {k : Nat} (hk : k ≤ 8) : Md_sold_l25 (fun (s11 : nm_St) => some ((0 : Int32), s11)) 400 (nI k) (nI (bts (alvB T) 8)) (nI 0) σ = some (nI (if fdM (fun x b => b || anB T k x) (suB (alvB T)) false (2 ^ T 0 6) then 1 else 0), σ) := by
  have hc := hI.1
  have h2 := pu_p2 hI.1
  have stay : ∀ i, fdM (fun x b => b || anB T k x) (suB (alvB T)) false i = true → ∀ j, i ≤ j → fdM (fun x b => b || anB T k x) (suB (alvB T)) false j = true := by
    intro i h j
    induction j with
    | zero => intro hj; rw [show 0 = i by omega]; exact h
    | succ j ih =>
      intro hj
      by_cases e : i = j + 1
      · rw [← e]; exact h
      · cases e2 : suB (alvB T) j with
        | true => rw [fdM_t e2, ih (by omega)]; rfl
        | false => rw [fdM_f e2]; exact ih (by omega)
  refine lp_Q (fun n i (_ : Unit) => Md_sold_l25 _ n (nI k) (nI (bts (alvB T) 8)) (nI i) σ) (2 ^ T 0 6) (fun i _ => fdM (fun x b => b || anB T k x) (suB (alvB T)) false i = false) (fun r => r = some (nI (if fdM (fun x b => b || anB T k x) (suB (alvB T)) false (2 ^ T 0 6) then 1 else 0), σ)) ?_ ?_ 400 0 () (by omega) rfl (by omega)
  · intro n i _ hi hp ih
    have hsh := md_shl h hI
    have km := md_mk0 h hI hi
    have hpc := pcN_le i
    cases e : suB (alvB T) i with
    | false =>
      have hs := ih () (by rw [fdM_f e]; exact hp)
      simp (disch := omega) only [Md_sold_l25, pl_0, pl_1, pl_2, pl_3, pl_4, pl_5, pl_6, pl_7, pl_8, pl_9, pl_10, pl_11, pl_12, pl_13, pl_14, pl_15, pl_16, pl_17, pl_18, pl_19, pl_20, pl_21, pl_30, pl_40, pl_50, pl_51, pl_60, pl_70, pl_71, pl_99, pl_100, pl_160, pl_240, pl_256, pl_300, pl_999, pl_1000, pl_1280, pl_9999, pl_10000, pu_neg, pu_nn, pu_le, pu_lt, pu_eq, pu_cl, pu_in, pu_g, ↓pu_let, ↓pu_bind, pu_m1, pu_add, pu_mul, Nat.not_lt_zero, if_false, if_true, Nat.zero_le, pu_d2, pu_d100, pu_em1, ↓reduceIte, Nat.reduceEqDiff, Nat.reduceLT, Nat.reduceLeDiff, Nat.reduceAdd, Nat.reduceMul, Nat.reduceSub, not_true_eq_false, not_false_eq_true, and_true, true_and, and_false, false_and, or_true, true_or, or_false, false_or, Nat.lt_irrefl, Nat.le_refl, Nat.add_zero, Bool.false_eq_true, ↓pu_gI, nd_le, nd_leT, nd_lt, nd_ltT, nd_eq, nd_eqT, hsh, pu_andm, su_c (show i < 256 by omega), e]
      exact hs
    | true =>
      cases a : anB T k i with
      | true =>
        have h3 := stay (i + 1) (by rw [fdM_t e, a, Bool.or_true]) (2 ^ T 0 6) (by omega)
        rw [h3]
        simp only [anB, Bool.and_eq_true, decide_eq_true_eq] at a
        rw [if_pos a.1] at km
        simp (disch := omega) only [Md_sold_l25, pl_0, pl_1, pl_2, pl_3, pl_4, pl_5, pl_6, pl_7, pl_8, pl_9, pl_10, pl_11, pl_12, pl_13, pl_14, pl_15, pl_16, pl_17, pl_18, pl_19, pl_20, pl_21, pl_30, pl_40, pl_50, pl_51, pl_60, pl_70, pl_71, pl_99, pl_100, pl_160, pl_240, pl_256, pl_300, pl_999, pl_1000, pl_1280, pl_9999, pl_10000, pu_neg, pu_nn, pu_le, pu_lt, pu_eq, pu_cl, pu_in, pu_g, ↓pu_let, ↓pu_bind, pu_m1, pu_add, pu_mul, Nat.not_lt_zero, if_false, if_true, Nat.zero_le, pu_d2, pu_d100, pu_em1, ↓reduceIte, Nat.reduceEqDiff, Nat.reduceLT, Nat.reduceLeDiff, Nat.reduceAdd, Nat.reduceMul, Nat.reduceSub, not_true_eq_false, not_false_eq_true, and_true, true_and, and_false, false_and, or_true, true_or, or_false, false_or, Nat.lt_irrefl, Nat.le_refl, Nat.add_zero, Bool.false_eq_true, ↓pu_gI, nd_le, nd_leT, nd_lt, nd_ltT, nd_eq, nd_eqT, hsh, pu_andm, su_c (show i < 256 by omega), e, md_ones, km]
      | false =>
        have hs := ih () (by rw [fdM_t e, a, hp]; rfl)
        by_cases b : k < pcN i
        · simp (disch := omega) only [Md_sold_l25, pl_0, pl_1, pl_2, pl_3, pl_4, pl_5, pl_6, pl_7, pl_8, pl_9, pl_10, pl_11, pl_12, pl_13, pl_14, pl_15, pl_16, pl_17, pl_18, pl_19, pl_20, pl_21, pl_30, pl_40, pl_50, pl_51, pl_60, pl_70, pl_71, pl_99, pl_100, pl_160, pl_240, pl_256, pl_300, pl_999, pl_1000, pl_1280, pl_9999, pl_10000, pu_neg, pu_nn, pu_le, pu_lt, pu_eq, pu_cl, pu_in, pu_g, ↓pu_let, ↓pu_bind, pu_m1, pu_add, pu_mul, Nat.not_lt_zero, if_false, if_true, Nat.zero_le, pu_d2, pu_d100, pu_em1, ↓reduceIte, Nat.reduceEqDiff, Nat.reduceLT, Nat.reduceLeDiff, Nat.reduceAdd, Nat.reduceMul, Nat.reduceSub, not_true_eq_false, not_false_eq_true, and_true, true_and, and_false, false_and, or_true, true_or, or_false, false_or, Nat.lt_irrefl, Nat.le_refl, Nat.add_zero, Bool.false_eq_true, ↓pu_gI, nd_le, nd_leT, nd_lt, nd_ltT, nd_eq, nd_eqT, hsh, pu_andm, su_c (show i < 256 by omega), e, md_ones]
          exact hs
        · have c : ¬ knS T i = 2 ^ T 0 7 - 1 := by
            unfold anB at a
            rw [decide_eq_true (show pcN i ≤ k by omega), Bool.and_true, decide_eq_false_iff_not] at a
            exact a
          rw [if_neg c] at km
          simp (disch := omega) only [Md_sold_l25, pl_0, pl_1, pl_2, pl_3, pl_4, pl_5, pl_6, pl_7, pl_8, pl_9, pl_10, pl_11, pl_12, pl_13, pl_14, pl_15, pl_16, pl_17, pl_18, pl_19, pl_20, pl_21, pl_30, pl_40, pl_50, pl_51, pl_60, pl_70, pl_71, pl_99, pl_100, pl_160, pl_240, pl_256, pl_300, pl_999, pl_1000, pl_1280, pl_9999, pl_10000, pu_neg, pu_nn, pu_le, pu_lt, pu_eq, pu_cl, pu_in, pu_g, ↓pu_let, ↓pu_bind, pu_m1, pu_add, pu_mul, Nat.not_lt_zero, if_false, if_true, Nat.zero_le, pu_d2, pu_d100, pu_em1, ↓reduceIte, Nat.reduceEqDiff, Nat.reduceLT, Nat.reduceLeDiff, Nat.reduceAdd, Nat.reduceMul, Nat.reduceSub, not_true_eq_false, not_false_eq_true, and_true, true_and, and_false, false_and, or_true, true_or, or_false, false_or, Nat.lt_irrefl, Nat.le_refl, Nat.add_zero, Bool.false_eq_true, ↓pu_gI, nd_le, nd_leT, nd_lt, nd_ltT, nd_eq, nd_eqT, hsh, pu_andm, su_c (show i < 256 by omega), e, md_ones, km]
          exact hs
  · intro n _ hp
    have hsh := md_shl h hI
    rw [hp]
    simp (disch := omega) only [Md_sold_l25, pl_0, pl_1, pl_2, pl_3, pl_4, pl_5, pl_6, pl_7, pl_8, pl_9, pl_10, pl_11, pl_12, pl_13, pl_14, pl_15, pl_16, pl_17, pl_18, pl_19, pl_20, pl_21, pl_30, pl_40, pl_50, pl_51, pl_60, pl_70, pl_71, pl_99, pl_100, pl_160, pl_240, pl_256, pl_300, pl_999, pl_1000, pl_1280, pl_9999, pl_10000, pu_neg, pu_nn, pu_le, pu_lt, pu_eq, pu_cl, pu_in, pu_g, ↓pu_let, ↓pu_bind, pu_m1, pu_add, pu_mul, Nat.not_lt_zero, if_false, if_true, Nat.zero_le, pu_d2, pu_d100, pu_em1, ↓reduceIte, Nat.reduceEqDiff, Nat.reduceLT, Nat.reduceLeDiff, Nat.reduceAdd, Nat.reduceMul, Nat.reduceSub, not_true_eq_false, not_false_eq_true, and_true, true_and, and_false, false_and, or_true, true_or, or_false, false_or, Nat.lt_irrefl, Nat.le_refl, Nat.add_zero, Bool.false_eq_true, ↓pu_gI, nd_le, nd_leT, nd_lt, nd_ltT, nd_eq, nd_eqT, hsh]
theorem bf_le (p : Nat → Bool) : ∀ n, (fdM (bfG T) p (0, 0) n).1 ≤ n ∧ (fdM (bfG T) p (0, 0) n).2 ≤ 9 := by
  intro n
  induction n with
  | zero => exact ⟨Nat.le_refl _, Nat.zero_le _⟩
  | succ n ih =>
    have hpc := pcN_le (knS T n ||| abK T)
    cases e : p n with
    | false => rw [fdM_f e]; exact ⟨by omega, ih.2⟩
    | true =>
      rw [fdM_t e]
      generalize fdM (bfG T) p (0, 0) n = s at *
      unfold bfG
      split
      · exact ⟨by show n ≤ _; omega, by show _ + 1 ≤ 9; omega⟩
      · exact ⟨by omega, ih.2⟩
theorem md_spend (h : MdR σ T) (hI : IslI T) : Md_spend σ = some (nI (fdM (bfG T) (suB (atB T 0)) (0, 0) (2 ^ T 0 6)).1, σ) := by
  have hc := hI.1
  have h2 := pu_p2 hI.1
  have hq := hI.2.2.2.1
  have hK := abK_lt hI
  unfold Md_spend
  simp only [pl_0, pl_1, pl_2, pl_3, pl_4, pl_5, pl_6, pl_7, pl_8, pl_9, pl_10, pl_11, pl_12, pl_13, pl_14, pl_15, pl_16, pl_17, pl_18, pl_19, pl_20, pl_21, pl_30, pl_40, pl_50, pl_51, pl_60, pl_70, pl_71, pl_99, pl_100, pl_160, pl_240, pl_256, pl_300, pl_999, pl_1000, pl_1280, pl_9999, pl_10000, md_those h hI (show 0 ≤ 3 by omega), md_those h hI (show 1 ≤ 3 by omega), pu_bind]
  rw [← pu_01]
  refine lp_Q (fun n i (b : Nat) => Md_spend_l23 _ n (nI (bts (atB T 0) 8)) (nI (bts (atB T 1) 8)) (nI (fdM (bfG T) (suB (atB T 0)) (0, 0) i).1) (nI (fdM (bfG T) (suB (atB T 0)) (0, 0) i).2 - nI 1) (nI b) (nI i) σ) (2 ^ T 0 6) (fun i b => b = prS T (fdM (bfG T) (suB (atB T 0)) (0, 0) i).1) (fun r => r = some (nI (fdM (bfG T) (suB (atB T 0)) (0, 0) (2 ^ T 0 6)).1, σ)) ?_ ?_ 400 0 0 (by omega) (prS_0 T).symm (by omega)
  · intro n i w hi hw ih
    subst hw
    have hs := ih _ rfl
    have hsh := md_shl h hI
    have kk := md_kn2 h hI hi
    have kp := md_prices h hI hi
    have hpr := prS_le hI i
    have hkn := or_lt8 (knS_lt hI i) hK
    have hpc := pcN_le (knS T i ||| abK T)
    obtain ⟨i1, i2⟩ := bf_le (T := T) (suB (atB T 0)) i
    cases e : suB (atB T 0) i with
    | false =>
      rw [fdM_f e] at hs
      simp (disch := omega) only [Md_spend_l23, pl_0, pl_1, pl_2, pl_3, pl_4, pl_5, pl_6, pl_7, pl_8, pl_9, pl_10, pl_11, pl_12, pl_13, pl_14, pl_15, pl_16, pl_17, pl_18, pl_19, pl_20, pl_21, pl_30, pl_40, pl_50, pl_51, pl_60, pl_70, pl_71, pl_99, pl_100, pl_160, pl_240, pl_256, pl_300, pl_999, pl_1000, pl_1280, pl_9999, pl_10000, pu_neg, pu_nn, pu_le, pu_lt, pu_eq, pu_cl, pu_in, pu_g, ↓pu_let, ↓pu_bind, pu_m1, pu_add, pu_mul, Nat.not_lt_zero, if_false, if_true, Nat.zero_le, pu_d2, pu_d100, pu_em1, ↓reduceIte, Nat.reduceEqDiff, Nat.reduceLT, Nat.reduceLeDiff, Nat.reduceAdd, Nat.reduceMul, Nat.reduceSub, not_true_eq_false, not_false_eq_true, and_true, true_and, and_false, false_and, or_true, true_or, or_false, false_or, Nat.lt_irrefl, Nat.le_refl, Nat.add_zero, Bool.false_eq_true, ↓pu_gI, nd_le, nd_leT, nd_lt, nd_ltT, nd_eq, nd_eqT, hsh, pu_andm, su_c (show i < 256 by omega), e, kp]
      exact hs
    | true =>
      rw [fdM_t e] at hs
      generalize fdM (bfG T) (suB (atB T 0)) (0, 0) i = s at *
      have hps := prS_le hI s.1
      by_cases a : prS T i ≤ T 0 9
      · have lt1 : (nI (pcN (knS T i ||| abK T)) < nI s.2 - nI 1) = (pcN (knS T i ||| abK T) + 1 < s.2) := by
          apply propext
          by_cases z : s.2 = 0
          · rw [z, pu_01]
            constructor
            · intro q
              have h1 := Int32.lt_iff_toInt_lt.mp q
              rw [nI_toInt (by omega), show (-nI 1 : Int32).toInt = -1 by decide +kernel] at h1
              omega
            · intro q; omega
          · obtain ⟨t, ht⟩ : ∃ t, s.2 = t + 1 := ⟨s.2 - 1, by omega⟩
            rw [ht, pu_pred, nI_ltI (by omega) (by omega)]
            omega
        by_cases b : s.2 < pcN (knS T i ||| abK T) + 1
        · rw [bfG_t (by rw [decide_eq_true a, decide_eq_true b]; rfl)] at hs
          simp only [pu_pred] at hs
          simp (disch := omega) only [Md_spend_l23, Md_spend_j101, pl_0, pl_1, pl_2, pl_3, pl_4, pl_5, pl_6, pl_7, pl_8, pl_9, pl_10, pl_11, pl_12, pl_13, pl_14, pl_15, pl_16, pl_17, pl_18, pl_19, pl_20, pl_21, pl_30, pl_40, pl_50, pl_51, pl_60, pl_70, pl_71, pl_99, pl_100, pl_160, pl_240, pl_256, pl_300, pl_999, pl_1000, pl_1280, pl_9999, pl_10000, pu_neg, pu_nn, pu_le, pu_lt, pu_eq, pu_cl, pu_in, pu_g, ↓pu_let, ↓pu_bind, pu_m1, pu_add, pu_mul, Nat.not_lt_zero, if_false, if_true, Nat.zero_le, pu_d2, pu_d100, pu_em1, ↓reduceIte, Nat.reduceEqDiff, Nat.reduceLT, Nat.reduceLeDiff, Nat.reduceAdd, Nat.reduceMul, Nat.reduceSub, not_true_eq_false, not_false_eq_true, and_true, true_and, and_false, false_and, or_true, true_or, or_false, false_or, Nat.lt_irrefl, Nat.le_refl, Nat.add_zero, Bool.false_eq_true, ↓pu_gI, nd_le, nd_leT, nd_lt, nd_ltT, nd_eq, nd_eqT, hsh, pu_andm, su_c (show i < 256 by omega), e, kp, h.q, fa_or, kk, md_ones, lt1, sub_eq1]
          exact hs
        · by_cases c : pcN (knS T i ||| abK T) + 1 = s.2
          · by_cases d : prS T i < prS T s.1
            · rw [bfG_t (by rw [decide_eq_true a, decide_eq_true c, decide_eq_true d, Bool.and_true, Bool.or_true]; rfl)] at hs
              simp only [pu_pred] at hs
              simp (disch := omega) only [Md_spend_l23, Md_spend_j101, pl_0, pl_1, pl_2, pl_3, pl_4, pl_5, pl_6, pl_7, pl_8, pl_9, pl_10, pl_11, pl_12, pl_13, pl_14, pl_15, pl_16, pl_17, pl_18, pl_19, pl_20, pl_21, pl_30, pl_40, pl_50, pl_51, pl_60, pl_70, pl_71, pl_99, pl_100, pl_160, pl_240, pl_256, pl_300, pl_999, pl_1000, pl_1280, pl_9999, pl_10000, pu_neg, pu_nn, pu_le, pu_lt, pu_eq, pu_cl, pu_in, pu_g, ↓pu_let, ↓pu_bind, pu_m1, pu_add, pu_mul, Nat.not_lt_zero, if_false, if_true, Nat.zero_le, pu_d2, pu_d100, pu_em1, ↓reduceIte, Nat.reduceEqDiff, Nat.reduceLT, Nat.reduceLeDiff, Nat.reduceAdd, Nat.reduceMul, Nat.reduceSub, not_true_eq_false, not_false_eq_true, and_true, true_and, and_false, false_and, or_true, true_or, or_false, false_or, Nat.lt_irrefl, Nat.le_refl, Nat.add_zero, Bool.false_eq_true, ↓pu_gI, nd_le, nd_leT, nd_lt, nd_ltT, nd_eq, nd_eqT, hsh, pu_andm, su_c (show i < 256 by omega), e, kp, h.q, fa_or, kk, md_ones, lt1, sub_eq1]
              exact hs
            · rw [bfG_f (by rw [decide_eq_false b, decide_eq_false d, Bool.and_false, Bool.or_false, Bool.and_false])] at hs
              simp (disch := omega) only [Md_spend_l23, Md_spend_j101, pl_0, pl_1, pl_2, pl_3, pl_4, pl_5, pl_6, pl_7, pl_8, pl_9, pl_10, pl_11, pl_12, pl_13, pl_14, pl_15, pl_16, pl_17, pl_18, pl_19, pl_20, pl_21, pl_30, pl_40, pl_50, pl_51, pl_60, pl_70, pl_71, pl_99, pl_100, pl_160, pl_240, pl_256, pl_300, pl_999, pl_1000, pl_1280, pl_9999, pl_10000, pu_neg, pu_nn, pu_le, pu_lt, pu_eq, pu_cl, pu_in, pu_g, ↓pu_let, ↓pu_bind, pu_m1, pu_add, pu_mul, Nat.not_lt_zero, if_false, if_true, Nat.zero_le, pu_d2, pu_d100, pu_em1, ↓reduceIte, Nat.reduceEqDiff, Nat.reduceLT, Nat.reduceLeDiff, Nat.reduceAdd, Nat.reduceMul, Nat.reduceSub, not_true_eq_false, not_false_eq_true, and_true, true_and, and_false, false_and, or_true, true_or, or_false, false_or, Nat.lt_irrefl, Nat.le_refl, Nat.add_zero, Bool.false_eq_true, ↓pu_gI, nd_le, nd_leT, nd_lt, nd_ltT, nd_eq, nd_eqT, hsh, pu_andm, su_c (show i < 256 by omega), e, kp, h.q, fa_or, kk, md_ones, lt1, sub_eq1]
              exact hs
          · rw [bfG_f (by rw [decide_eq_false b, decide_eq_false c, Bool.false_and, Bool.or_false, Bool.and_false])] at hs
            simp (disch := omega) only [Md_spend_l23, Md_spend_j101, pl_0, pl_1, pl_2, pl_3, pl_4, pl_5, pl_6, pl_7, pl_8, pl_9, pl_10, pl_11, pl_12, pl_13, pl_14, pl_15, pl_16, pl_17, pl_18, pl_19, pl_20, pl_21, pl_30, pl_40, pl_50, pl_51, pl_60, pl_70, pl_71, pl_99, pl_100, pl_160, pl_240, pl_256, pl_300, pl_999, pl_1000, pl_1280, pl_9999, pl_10000, pu_neg, pu_nn, pu_le, pu_lt, pu_eq, pu_cl, pu_in, pu_g, ↓pu_let, ↓pu_bind, pu_m1, pu_add, pu_mul, Nat.not_lt_zero, if_false, if_true, Nat.zero_le, pu_d2, pu_d100, pu_em1, ↓reduceIte, Nat.reduceEqDiff, Nat.reduceLT, Nat.reduceLeDiff, Nat.reduceAdd, Nat.reduceMul, Nat.reduceSub, not_true_eq_false, not_false_eq_true, and_true, true_and, and_false, false_and, or_true, true_or, or_false, false_or, Nat.lt_irrefl, Nat.le_refl, Nat.add_zero, Bool.false_eq_true, ↓pu_gI, nd_le, nd_leT, nd_lt, nd_ltT, nd_eq, nd_eqT, hsh, pu_andm, su_c (show i < 256 by omega), e, kp, h.q, fa_or, kk, md_ones, lt1, sub_eq1]
            exact hs
      · rw [bfG_f (by rw [decide_eq_false a]; rfl)] at hs
        simp (disch := omega) only [Md_spend_l23, pl_0, pl_1, pl_2, pl_3, pl_4, pl_5, pl_6, pl_7, pl_8, pl_9, pl_10, pl_11, pl_12, pl_13, pl_14, pl_15, pl_16, pl_17, pl_18, pl_19, pl_20, pl_21, pl_30, pl_40, pl_50, pl_51, pl_60, pl_70, pl_71, pl_99, pl_100, pl_160, pl_240, pl_256, pl_300, pl_999, pl_1000, pl_1280, pl_9999, pl_10000, pu_neg, pu_nn, pu_le, pu_lt, pu_eq, pu_cl, pu_in, pu_g, ↓pu_let, ↓pu_bind, pu_m1, pu_add, pu_mul, Nat.not_lt_zero, if_false, if_true, Nat.zero_le, pu_d2, pu_d100, pu_em1, ↓reduceIte, Nat.reduceEqDiff, Nat.reduceLT, Nat.reduceLeDiff, Nat.reduceAdd, Nat.reduceMul, Nat.reduceSub, not_true_eq_false, not_false_eq_true, and_true, true_and, and_false, false_and, or_true, true_or, or_false, false_or, Nat.lt_irrefl, Nat.le_refl, Nat.add_zero, Bool.false_eq_true, ↓pu_gI, nd_le, nd_leT, nd_lt, nd_ltT, nd_eq, nd_eqT, hsh, pu_andm, su_c (show i < 256 by omega), e, kp, h.q]
        exact hs
  · intro n w _
    have hsh := md_shl h hI
    simp (disch := omega) only [Md_spend_l23, pl_0, pl_1, pl_2, pl_3, pl_4, pl_5, pl_6, pl_7, pl_8, pl_9, pl_10, pl_11, pl_12, pl_13, pl_14, pl_15, pl_16, pl_17, pl_18, pl_19, pl_20, pl_21, pl_30, pl_40, pl_50, pl_51, pl_60, pl_70, pl_71, pl_99, pl_100, pl_160, pl_240, pl_256, pl_300, pl_999, pl_1000, pl_1280, pl_9999, pl_10000, pu_neg, pu_nn, pu_le, pu_lt, pu_eq, pu_cl, pu_in, pu_g, ↓pu_let, ↓pu_bind, pu_m1, pu_add, pu_mul, Nat.not_lt_zero, if_false, if_true, Nat.zero_le, pu_d2, pu_d100, pu_em1, ↓reduceIte, Nat.reduceEqDiff, Nat.reduceLT, Nat.reduceLeDiff, Nat.reduceAdd, Nat.reduceMul, Nat.reduceSub, not_true_eq_false, not_false_eq_true, and_true, true_and, and_false, false_and, or_true, true_or, or_false, false_or, Nat.lt_irrefl, Nat.le_refl, Nat.add_zero, Bool.false_eq_true, ↓pu_gI, nd_le, nd_leT, nd_lt, nd_ltT, nd_eq, nd_eqT, hsh]
end MSR
