/-! letters, keys, who it was -/
/-- what a letter tells -/
def tolN (T : is_T) (E : Nat → Nat → Int64) (s key : Nat) : Nat → Nat
  | 0 => 0
  | n + 1 => if (un (eN E s n) + key) % 8 < T 0 7 then tolN T E s key n ||| 2 ^ ((un (eN E s n) + key) % 8) else tolN T E s key n
theorem tol_lt {T : is_T} (hI : IslI T) (E : Nat → Nat → Int64) (s key : Nat) : ∀ n, tolN T E s key n < 256 := by
  intro n
  induction n with
  | zero => show 0 < 256; omega
  | succ n ih =>
    show (if _ then _ else _) < 256
    split
    · exact Nat.or_lt_two_pow (n := 8) ih (Nat.pow_lt_pow_right (by omega) (Nat.mod_lt _ (by omega)))
    · exact ih
theorem and7 (x : Nat) : x &&& 7 = x % 8 := Nat.and_two_pow_sub_one_eq_mod x 3
theorem un_nI {n : Nat} (h : n < 2 ^ 32) : un (nI n) = n := pk_tn h
theorem nI_z {a : Nat} (h : a < 2 ^ 32) : (nI a = nI 0) = (a = 0) := by
  apply propext
  constructor
  · intro e
    have := congrArg un e
    rwa [un_nI h, un_nI (by omega)] at this
  · rintro rfl; rfl
theorem sub_iff {a k : Nat} (ha : a < 2 ^ 32) (hk : k ≤ 8) : andN a (2 ^ k - 1) = 0 ↔ a < 2 ^ k := by
  constructor
  · intro h
    apply Nat.lt_pow_two_of_testBit
    intro i hi
    have h1 : (andN a (2 ^ k - 1)).testBit i = false := by rw [h]; simp
    rw [andN_tb ha, Nat.testBit_two_pow_sub_one] at h1
    simpa [show ¬ i < k by omega] using h1
  · intro h
    apply Nat.eq_of_testBit_eq
    intro i
    rw [andN_tb ha, Nat.testBit_two_pow_sub_one]
    by_cases z : i < k
    · simp [z]
    · rw [Nat.testBit_lt_two_pow (Nat.lt_of_lt_of_le h (Nat.pow_le_pow_right (by omega) (by omega)))]
      simp
theorem sub_x (x : Int32) {k : Nat} (hk : k ≤ 8) : (x &&& (nI (2 ^ k - 1) ^^^ -nI 1) = nI 0) = (un x < 2 ^ k) := by
  have e : x = nI (un x) := rg_t x
  have hl := un_lt x
  conv => lhs; rw [e, pu_andm]
  rw [nI_z (Nat.lt_of_le_of_lt (andN_le _ _) hl)]
  exact propext (sub_iff hl hk)
section LET
variable {σ : nm_St} {T U : is_T} {E : Nat → Nat → Int64}
theorem nm_told (h : CF σ T U E) (hP : PF T U) {s n key : Nat} (hs : s < 8) (hn : n ≤ U 2 s) (hk : key < 8) (hA : allF (wiB E s 7) n = true) : Nm_partsTold (54 + 2 * s) (nI n) (nI key) σ = some (nI (tolN T E s key n), σ) := by
  have hsz := (hP.2 s hs).1.2.2
  have hI := hP.1
  have hp := hI.2.1
  unfold Nm_partsTold
  simp only [pl_0, pl_1, pl_2, pl_3, pl_4, pl_5, pl_6, pl_7, pl_8, pl_9, pl_10, pl_11, pl_12, pl_13, pl_14, pl_15, pl_16, pl_17, pl_18, pl_19, pl_20, pl_21, pl_30, pl_40, pl_50, pl_51, pl_60, pl_70, pl_71, pl_99, pl_100, pl_160, pl_240, pl_256, pl_300, pl_999, pl_1000, pl_1280, pl_9999, pl_10000]
  refine lp_Q (fun n' i (_ : Unit) => Nm_partsTold_l6 (54 + 2 * s) _ n' (nI n) (nI key) (nI (tolN T E s key i)) (nI i) σ) n (fun i _ => True) (fun r => r = some (nI (tolN T E s key n), σ)) ?_ ?_ 400 0 () (by omega) trivial (by omega)
  · intro n' i _ hi _ ih
    have hs2 := ih () trivial
    have kN := sh_num h hP hs (show i < U 2 s by omega)
    have hw : un (eN E s i) ≤ 7 := of_decide_eq_true (allF_at n hA i hi)
    rw [rg_t (eN E s i)] at kN
    have h8 : (un (eN E s i) + key) % 8 < 8 := Nat.mod_lt _ (by omega)
    rw [show tolN T E s key (i + 1) = if (un (eN E s i) + key) % 8 < T 0 7 then tolN T E s key i ||| 2 ^ ((un (eN E s i) + key) % 8) else tolN T E s key i from rfl] at hs2
    by_cases z : (un (eN E s i) + key) % 8 < T 0 7
    · rw [if_pos z] at hs2
      simp (disch := omega) only [Nm_partsTold_l6, pl_0, pl_1, pl_2, pl_3, pl_4, pl_5, pl_6, pl_7, pl_8, pl_9, pl_10, pl_11, pl_12, pl_13, pl_14, pl_15, pl_16, pl_17, pl_18, pl_19, pl_20, pl_21, pl_30, pl_40, pl_50, pl_51, pl_60, pl_70, pl_71, pl_99, pl_100, pl_160, pl_240, pl_256, pl_300, pl_999, pl_1000, pl_1280, pl_9999, pl_10000, pu_neg, pu_nn, pu_le, pu_lt, pu_eq, pu_cl, pu_in, pu_g, ↓pu_let, ↓pu_bind, pu_m1, pu_add, pu_mul, Nat.not_lt_zero, if_false, if_true, Nat.zero_le, pu_d2, pu_d100, pu_em1, ↓reduceIte, Nat.reduceEqDiff, Nat.reduceLT, Nat.reduceLeDiff, Nat.reduceAdd, Nat.reduceMul, Nat.reduceSub, not_true_eq_false, not_false_eq_true, and_true, true_and, and_false, false_and, or_true, true_or, or_false, false_or, Nat.lt_irrefl, Nat.le_refl, Nat.add_zero, Bool.false_eq_true, ↓pu_gI, nd_le, nd_leT, nd_lt, nd_ltT, nd_eq, nd_eqT, kN, fa_and, and7, is_isPart_v h.1 hI z, pu_shl, fa_or]
      exact hs2
    · rw [if_neg z] at hs2
      simp (disch := omega) only [Nm_partsTold_l6, pl_0, pl_1, pl_2, pl_3, pl_4, pl_5, pl_6, pl_7, pl_8, pl_9, pl_10, pl_11, pl_12, pl_13, pl_14, pl_15, pl_16, pl_17, pl_18, pl_19, pl_20, pl_21, pl_30, pl_40, pl_50, pl_51, pl_60, pl_70, pl_71, pl_99, pl_100, pl_160, pl_240, pl_256, pl_300, pl_999, pl_1000, pl_1280, pl_9999, pl_10000, pu_neg, pu_nn, pu_le, pu_lt, pu_eq, pu_cl, pu_in, pu_g, ↓pu_let, ↓pu_bind, pu_m1, pu_add, pu_mul, Nat.not_lt_zero, if_false, if_true, Nat.zero_le, pu_d2, pu_d100, pu_em1, ↓reduceIte, Nat.reduceEqDiff, Nat.reduceLT, Nat.reduceLeDiff, Nat.reduceAdd, Nat.reduceMul, Nat.reduceSub, not_true_eq_false, not_false_eq_true, and_true, true_and, and_false, false_and, or_true, true_or, or_false, false_or, Nat.lt_irrefl, Nat.le_refl, Nat.add_zero, Bool.false_eq_true, ↓pu_gI, nd_le, nd_leT, nd_lt, nd_ltT, nd_eq, nd_eqT, kN, fa_and, and7, is_isPart_n h.1 (x := nI ((un (eN E s i) + key) % 8)) (Or.inr (nI_le (by omega) (by omega)))]
      exact hs2
  · intro n' _ _
    simp (disch := omega) only [Nm_partsTold_l6, pl_0, pl_1, pl_2, pl_3, pl_4, pl_5, pl_6, pl_7, pl_8, pl_9, pl_10, pl_11, pl_12, pl_13, pl_14, pl_15, pl_16, pl_17, pl_18, pl_19, pl_20, pl_21, pl_30, pl_40, pl_50, pl_51, pl_60, pl_70, pl_71, pl_99, pl_100, pl_160, pl_240, pl_256, pl_300, pl_999, pl_1000, pl_1280, pl_9999, pl_10000, pu_neg, pu_nn, pu_le, pu_lt, pu_eq, pu_cl, pu_in, pu_g, ↓pu_let, ↓pu_bind, pu_m1, pu_add, pu_mul, Nat.not_lt_zero, if_false, if_true, Nat.zero_le, pu_d2, pu_d100, pu_em1, ↓reduceIte, Nat.reduceEqDiff, Nat.reduceLT, Nat.reduceLeDiff, Nat.reduceAdd, Nat.reduceMul, Nat.reduceSub, not_true_eq_false, not_false_eq_true, and_true, true_and, and_false, false_and, or_true, true_or, or_false, false_or, Nat.lt_irrefl, Nat.le_refl, Nat.add_zero, Bool.false_eq_true, ↓pu_gI, nd_le, nd_leT, nd_lt, nd_ltT, nd_eq, nd_eqT]
theorem md_told (h : MF σ T U E) (hP : PF T U) {s n key : Nat} (hs : s < 8) (hn : n ≤ U 2 s) (hk : key < 8) (hA : allF (wiB E s 7) n = true) : Md_told (nI s) (nI n) (nI key) σ = some (nI (tolN T E s key n), σ) := by
  have hsz := (hP.2 s hs).1.2.2
  have hI := hP.1
  have hp := hI.2.1
  unfold Md_told
  simp only [pl_0, pl_1, pl_2, pl_3, pl_4, pl_5, pl_6, pl_7, pl_8, pl_9, pl_10, pl_11, pl_12, pl_13, pl_14, pl_15, pl_16, pl_17, pl_18, pl_19, pl_20, pl_21, pl_30, pl_40, pl_50, pl_51, pl_60, pl_70, pl_71, pl_99, pl_100, pl_160, pl_240, pl_256, pl_300, pl_999, pl_1000, pl_1280, pl_9999, pl_10000]
  refine lp_Q (fun n' i (_ : Unit) => Md_told_l6 _ n' (nI s) (nI n) (nI key) (nI (tolN T E s key i)) (nI i) σ) n (fun i _ => True) (fun r => r = some (nI (tolN T E s key n), σ)) ?_ ?_ 400 0 () (by omega) trivial (by omega)
  · intro n' i _ hi _ ih
    have hs2 := ih () trivial
    have kN := md_int h hP hs (show i < U 2 s by omega)
    have hw : un (eN E s i) ≤ 7 := of_decide_eq_true (allF_at n hA i hi)
    rw [rg_t (eN E s i)] at kN
    have h8 : (un (eN E s i) + key) % 8 < 8 := Nat.mod_lt _ (by omega)
    have hm : un (eN E s i) + key - (un (eN E s i) + key) / 8 * 8 = (un (eN E s i) + key) % 8 := by omega
    rw [show tolN T E s key (i + 1) = if (un (eN E s i) + key) % 8 < T 0 7 then tolN T E s key i ||| 2 ^ ((un (eN E s i) + key) % 8) else tolN T E s key i from rfl] at hs2
    by_cases z : (un (eN E s i) + key) % 8 < T 0 7
    · rw [if_pos z] at hs2
      simp (disch := omega) only [Md_told_l6, pl_0, pl_1, pl_2, pl_3, pl_4, pl_5, pl_6, pl_7, pl_8, pl_9, pl_10, pl_11, pl_12, pl_13, pl_14, pl_15, pl_16, pl_17, pl_18, pl_19, pl_20, pl_21, pl_30, pl_40, pl_50, pl_51, pl_60, pl_70, pl_71, pl_99, pl_100, pl_160, pl_240, pl_256, pl_300, pl_999, pl_1000, pl_1280, pl_9999, pl_10000, pu_neg, pu_nn, pu_le, pu_lt, pu_eq, pu_cl, pu_in, pu_g, ↓pu_let, ↓pu_bind, pu_m1, pu_add, pu_mul, Nat.not_lt_zero, if_false, if_true, Nat.zero_le, pu_d2, pu_d100, pu_em1, ↓reduceIte, Nat.reduceEqDiff, Nat.reduceLT, Nat.reduceLeDiff, Nat.reduceAdd, Nat.reduceMul, Nat.reduceSub, not_true_eq_false, not_false_eq_true, and_true, true_and, and_false, false_and, or_true, true_or, or_false, false_or, Nat.lt_irrefl, Nat.le_refl, Nat.add_zero, Bool.false_eq_true, ↓pu_gI, nd_le, nd_leT, nd_lt, nd_ltT, nd_eq, nd_eqT, decide_false, Bool.not_false, kN, pk_div, pk_sub, hm, h.1.p, pu_shl, fa_or]
      exact hs2
    · rw [if_neg z] at hs2
      simp (disch := omega) only [Md_told_l6, pl_0, pl_1, pl_2, pl_3, pl_4, pl_5, pl_6, pl_7, pl_8, pl_9, pl_10, pl_11, pl_12, pl_13, pl_14, pl_15, pl_16, pl_17, pl_18, pl_19, pl_20, pl_21, pl_30, pl_40, pl_50, pl_51, pl_60, pl_70, pl_71, pl_99, pl_100, pl_160, pl_240, pl_256, pl_300, pl_999, pl_1000, pl_1280, pl_9999, pl_10000, pu_neg, pu_nn, pu_le, pu_lt, pu_eq, pu_cl, pu_in, pu_g, ↓pu_let, ↓pu_bind, pu_m1, pu_add, pu_mul, Nat.not_lt_zero, if_false, if_true, Nat.zero_le, pu_d2, pu_d100, pu_em1, ↓reduceIte, Nat.reduceEqDiff, Nat.reduceLT, Nat.reduceLeDiff, Nat.reduceAdd, Nat.reduceMul, Nat.reduceSub, not_true_eq_false, not_false_eq_true, and_true, true_and, and_false, false_and, or_true, true_or, or_false, false_or, Nat.lt_irrefl, Nat.le_refl, Nat.add_zero, Bool.false_eq_true, ↓pu_gI, nd_le, nd_leT, nd_lt, nd_ltT, nd_eq, nd_eqT, decide_false, Bool.not_false, kN, pk_div, pk_sub, hm, h.1.p]
      exact hs2
  · intro n' _ _
    simp (disch := omega) only [Md_told_l6, pl_0, pl_1, pl_2, pl_3, pl_4, pl_5, pl_6, pl_7, pl_8, pl_9, pl_10, pl_11, pl_12, pl_13, pl_14, pl_15, pl_16, pl_17, pl_18, pl_19, pl_20, pl_21, pl_30, pl_40, pl_50, pl_51, pl_60, pl_70, pl_71, pl_99, pl_100, pl_160, pl_240, pl_256, pl_300, pl_999, pl_1000, pl_1280, pl_9999, pl_10000, pu_neg, pu_nn, pu_le, pu_lt, pu_eq, pu_cl, pu_in, pu_g, ↓pu_let, ↓pu_bind, pu_m1, pu_add, pu_mul, Nat.not_lt_zero, if_false, if_true, Nat.zero_le, pu_d2, pu_d100, pu_em1, ↓reduceIte, Nat.reduceEqDiff, Nat.reduceLT, Nat.reduceLeDiff, Nat.reduceAdd, Nat.reduceMul, Nat.reduceSub, not_true_eq_false, not_false_eq_true, and_true, true_and, and_false, false_and, or_true, true_or, or_false, false_or, Nat.lt_irrefl, Nat.le_refl, Nat.add_zero, Bool.false_eq_true, ↓pu_gI, nd_le, nd_leT, nd_lt, nd_ltT, nd_eq, nd_eqT]
theorem nm_isLetter (h : CF σ T U E) (hP : PF T U) {s n : Nat} (hs : s < 8) (hn : n ≤ U 2 s) : Nm_isLetter (54 + 2 * s) (nI n) σ = some (nI (if n ≤ 40 ∧ allF (wiB E s 7) n = true then 1 else 0), σ) := by
  have hsz := (hP.2 s hs).1.2.2
  have k := sh_within h hP hs hn (show 7 < 1000 by omega)
  unfold Nm_isLetter
  by_cases z : n ≤ 40
  · simp (disch := omega) only [pl_0, pl_1, pl_2, pl_3, pl_4, pl_5, pl_6, pl_7, pl_8, pl_9, pl_10, pl_11, pl_12, pl_13, pl_14, pl_15, pl_16, pl_17, pl_18, pl_19, pl_20, pl_21, pl_30, pl_40, pl_50, pl_51, pl_60, pl_70, pl_71, pl_99, pl_100, pl_160, pl_240, pl_256, pl_300, pl_999, pl_1000, pl_1280, pl_9999, pl_10000, pu_neg, pu_nn, pu_le, pu_lt, pu_eq, pu_cl, pu_in, pu_g, ↓pu_let, ↓pu_bind, pu_m1, pu_add, pu_mul, Nat.not_lt_zero, if_false, if_true, Nat.zero_le, pu_d2, pu_d100, pu_em1, ↓reduceIte, Nat.reduceEqDiff, Nat.reduceLT, Nat.reduceLeDiff, Nat.reduceAdd, Nat.reduceMul, Nat.reduceSub, not_true_eq_false, not_false_eq_true, and_true, true_and, and_false, false_and, or_true, true_or, or_false, false_or, Nat.lt_irrefl, Nat.le_refl, Nat.add_zero, Bool.false_eq_true, ↓pu_gI, nd_le, nd_leT, nd_lt, nd_ltT, nd_eq, nd_eqT, k]
    cases allF (wiB E s 7) n <;> simp [z, pu_10]
  · simp (disch := omega) only [pl_0, pl_1, pl_2, pl_3, pl_4, pl_5, pl_6, pl_7, pl_8, pl_9, pl_10, pl_11, pl_12, pl_13, pl_14, pl_15, pl_16, pl_17, pl_18, pl_19, pl_20, pl_21, pl_30, pl_40, pl_50, pl_51, pl_60, pl_70, pl_71, pl_99, pl_100, pl_160, pl_240, pl_256, pl_300, pl_999, pl_1000, pl_1280, pl_9999, pl_10000, pu_neg, pu_nn, pu_le, pu_lt, pu_eq, pu_cl, pu_in, pu_g, ↓pu_let, ↓pu_bind, pu_m1, pu_add, pu_mul, Nat.not_lt_zero, if_false, if_true, Nat.zero_le, pu_d2, pu_d100, pu_em1, ↓reduceIte, Nat.reduceEqDiff, Nat.reduceLT, Nat.reduceLeDiff, Nat.reduceAdd, Nat.reduceMul, Nat.reduceSub, not_true_eq_false, not_false_eq_true, and_true, true_and, and_false, false_and, or_true, true_or, or_false, false_or, Nat.lt_irrefl, Nat.le_refl, Nat.add_zero, Bool.false_eq_true, ↓pu_gI, nd_le, nd_leT, nd_lt, nd_ltT, nd_eq, nd_eqT]
/-- 0, or why a letter can't be read -/
def lbN (U : is_T) (E : Nat → Nat → Int64) (s n : Nat) : Nat := if cfN U s n ≠ 0 then cfN U s n else if n ≤ 40 ∧ allF (wiB E s 7) n = true then 0 else 6
theorem md_bol (h : MF σ T U E) (hP : PF T U) {s n : Nat} (hs : s < 8) (hn : n < 2147483648) : Md_barsOfLetter (nI s) (nI n) σ = some (if lbN U E s n = 0 then nI 0 else -nI (lbN U E s n), σ) := by
  have k := md_bars h hP hs hn
  have hl := cf_le U s n
  unfold Md_barsOfLetter
  rw [k]
  simp only [pl_0, pl_1, pl_2, pl_3, pl_4, pl_5, pl_6, pl_7, pl_8, pl_9, pl_10, pl_11, pl_12, pl_13, pl_14, pl_15, pl_16, pl_17, pl_18, pl_19, pl_20, pl_21, pl_30, pl_40, pl_50, pl_51, pl_60, pl_70, pl_71, pl_99, pl_100, pl_160, pl_240, pl_256, pl_300, pl_999, pl_1000, pl_1280, pl_9999, pl_10000, pu_bind]
  have stop : ∀ (b : Nat), 1 ≤ b → b ≤ 6 → Md_barsOfLetter_l10 (fun (e9 : Int32) (s8 : nm_St) => some (e9, s8)) 400 (nI s) (nI n) (-nI b) (nI 0) σ = some (-nI b, σ) := by
    intro b h1 h2
    rw [Md_barsOfLetter_l10]
    by_cases z : n ≤ 0
    · simp (disch := omega) only [pl_0, pl_1, pl_2, pl_3, pl_4, pl_5, pl_6, pl_7, pl_8, pl_9, pl_10, pl_11, pl_12, pl_13, pl_14, pl_15, pl_16, pl_17, pl_18, pl_19, pl_20, pl_21, pl_30, pl_40, pl_50, pl_51, pl_60, pl_70, pl_71, pl_99, pl_100, pl_160, pl_240, pl_256, pl_300, pl_999, pl_1000, pl_1280, pl_9999, pl_10000, pu_neg, pu_nn, pu_le, pu_lt, pu_eq, pu_cl, pu_in, pu_g, ↓pu_let, ↓pu_bind, pu_m1, pu_add, pu_mul, Nat.not_lt_zero, if_false, if_true, Nat.zero_le, pu_d2, pu_d100, pu_em1, ↓reduceIte, Nat.reduceEqDiff, Nat.reduceLT, Nat.reduceLeDiff, Nat.reduceAdd, Nat.reduceMul, Nat.reduceSub, not_true_eq_false, not_false_eq_true, and_true, true_and, and_false, false_and, or_true, true_or, or_false, false_or, Nat.lt_irrefl, Nat.le_refl, Nat.add_zero, Bool.false_eq_true, ↓pu_gI, nd_le, nd_leT, nd_lt, nd_ltT, nd_eq, nd_eqT]
    · simp (disch := omega) only [pl_0, pl_1, pl_2, pl_3, pl_4, pl_5, pl_6, pl_7, pl_8, pl_9, pl_10, pl_11, pl_12, pl_13, pl_14, pl_15, pl_16, pl_17, pl_18, pl_19, pl_20, pl_21, pl_30, pl_40, pl_50, pl_51, pl_60, pl_70, pl_71, pl_99, pl_100, pl_160, pl_240, pl_256, pl_300, pl_999, pl_1000, pl_1280, pl_9999, pl_10000, pu_neg, pu_nn, pu_le, pu_lt, pu_eq, pu_cl, pu_in, pu_g, ↓pu_let, ↓pu_bind, pu_m1, pu_add, pu_mul, Nat.not_lt_zero, if_false, if_true, Nat.zero_le, pu_d2, pu_d100, pu_em1, ↓reduceIte, Nat.reduceEqDiff, Nat.reduceLT, Nat.reduceLeDiff, Nat.reduceAdd, Nat.reduceMul, Nat.reduceSub, not_true_eq_false, not_false_eq_true, and_true, true_and, and_false, false_and, or_true, true_or, or_false, false_or, Nat.lt_irrefl, Nat.le_refl, Nat.add_zero, Bool.false_eq_true, ↓pu_gI, nd_le, nd_leT, nd_lt, nd_ltT, nd_eq, nd_eqT, pu_ng]
  unfold lbN
  by_cases c : cfN U s n = 0
  · rw [if_pos c, if_neg (show ¬ cfN U s n ≠ 0 by omega)]
    obtain ⟨e0, hle⟩ := cf_1 hP hs c
    have hsz := (hP.2 s hs).1.2.2
    by_cases z : n ≤ 40
    · rw [if_pos z]
      have hfin : ∀ A, (allF (wiB E s 7) n = true → A = nI 0) → (allF (wiB E s 7) n = false → A = -nI 6) → Md_barsOfLetter_l10 (fun (e9 : Int32) (s8 : nm_St) => some (e9, s8)) 400 (nI s) (nI n) (nI 0) (nI 0) σ = some (A, σ) := by
        intro A hA1 hA2
        refine lp_Q (fun n' i (b : Int32) => Md_barsOfLetter_l10 _ n' (nI s) (nI n) b (nI i) σ) n (fun i b => (b = nI 0 ∧ allF (wiB E s 7) i = true) ∨ (b = -nI 6 ∧ allF (wiB E s 7) n = false)) (fun r => r = some (A, σ)) ?_ ?_ 400 0 (nI 0) (by omega) (Or.inl ⟨rfl, rfl⟩) (by omega)
        · intro n' i b hi hb ih
          rcases hb with ⟨rfl, hA⟩ | ⟨rfl, hA⟩
          · have kN := md_int h hP hs (show i < U 2 s by omega)
            by_cases y : un (eN E s i) ≤ 7
            · have hs2 := ih (nI 0) (Or.inl ⟨rfl, allF_t hA (by unfold wiB; rw [decide_eq_true y])⟩)
              rw [rg_t (eN E s i)] at kN
              simp (disch := omega) only [Md_barsOfLetter_l10, pl_0, pl_1, pl_2, pl_3, pl_4, pl_5, pl_6, pl_7, pl_8, pl_9, pl_10, pl_11, pl_12, pl_13, pl_14, pl_15, pl_16, pl_17, pl_18, pl_19, pl_20, pl_21, pl_30, pl_40, pl_50, pl_51, pl_60, pl_70, pl_71, pl_99, pl_100, pl_160, pl_240, pl_256, pl_300, pl_999, pl_1000, pl_1280, pl_9999, pl_10000, pu_neg, pu_nn, pu_le, pu_lt, pu_eq, pu_cl, pu_in, pu_g, ↓pu_let, ↓pu_bind, pu_m1, pu_add, pu_mul, Nat.not_lt_zero, if_false, if_true, Nat.zero_le, pu_d2, pu_d100, pu_em1, ↓reduceIte, Nat.reduceEqDiff, Nat.reduceLT, Nat.reduceLeDiff, Nat.reduceAdd, Nat.reduceMul, Nat.reduceSub, not_true_eq_false, not_false_eq_true, and_true, true_and, and_false, false_and, or_true, true_or, or_false, false_or, Nat.lt_irrefl, Nat.le_refl, Nat.add_zero, Bool.false_eq_true, ↓pu_gI, nd_le, nd_leT, nd_lt, nd_ltT, nd_eq, nd_eqT, kN]
              exact hs2
            · have hF := allF_f (f := wiB E s 7) (i := i) (by unfold wiB; rw [decide_eq_false y]) n hi
              have hs2 := ih (-nI 6) (Or.inr ⟨rfl, hF⟩)
              rcases rg_f (by omega) y with hx | hx
              · simp (disch := omega) only [Md_barsOfLetter_l10, pl_0, pl_1, pl_2, pl_3, pl_4, pl_5, pl_6, pl_7, pl_8, pl_9, pl_10, pl_11, pl_12, pl_13, pl_14, pl_15, pl_16, pl_17, pl_18, pl_19, pl_20, pl_21, pl_30, pl_40, pl_50, pl_51, pl_60, pl_70, pl_71, pl_99, pl_100, pl_160, pl_240, pl_256, pl_300, pl_999, pl_1000, pl_1280, pl_9999, pl_10000, pu_neg, pu_nn, pu_le, pu_lt, pu_eq, pu_cl, pu_in, pu_g, ↓pu_let, ↓pu_bind, pu_m1, pu_add, pu_mul, Nat.not_lt_zero, if_false, if_true, Nat.zero_le, pu_d2, pu_d100, pu_em1, ↓reduceIte, Nat.reduceEqDiff, Nat.reduceLT, Nat.reduceLeDiff, Nat.reduceAdd, Nat.reduceMul, Nat.reduceSub, not_true_eq_false, not_false_eq_true, and_true, true_and, and_false, false_and, or_true, true_or, or_false, false_or, Nat.lt_irrefl, Nat.le_refl, Nat.add_zero, Bool.false_eq_true, ↓pu_gI, nd_le, nd_leT, nd_lt, nd_ltT, nd_eq, nd_eqT, kN, ngl hx, nge hx, ngle hx, nggt hx, ngne hx]
                exact hs2
              · simp (disch := omega) only [Md_barsOfLetter_l10, pl_0, pl_1, pl_2, pl_3, pl_4, pl_5, pl_6, pl_7, pl_8, pl_9, pl_10, pl_11, pl_12, pl_13, pl_14, pl_15, pl_16, pl_17, pl_18, pl_19, pl_20, pl_21, pl_30, pl_40, pl_50, pl_51, pl_60, pl_70, pl_71, pl_99, pl_100, pl_160, pl_240, pl_256, pl_300, pl_999, pl_1000, pl_1280, pl_9999, pl_10000, pu_neg, pu_nn, pu_le, pu_lt, pu_eq, pu_cl, pu_in, pu_g, ↓pu_let, ↓pu_bind, pu_m1, pu_add, pu_mul, Nat.not_lt_zero, if_false, if_true, Nat.zero_le, pu_d2, pu_d100, pu_em1, ↓reduceIte, Nat.reduceEqDiff, Nat.reduceLT, Nat.reduceLeDiff, Nat.reduceAdd, Nat.reduceMul, Nat.reduceSub, not_true_eq_false, not_false_eq_true, and_true, true_and, and_false, false_and, or_true, true_or, or_false, false_or, Nat.lt_irrefl, Nat.le_refl, Nat.add_zero, Bool.false_eq_true, ↓pu_gI, nd_le, nd_leT, nd_lt, nd_ltT, nd_eq, nd_eqT, kN, bgl hx, bge hx, bgle hx, bggt hx, bgne hx, bgm1 hx]
                exact hs2
          · simp (disch := omega) only [Md_barsOfLetter_l10, pl_0, pl_1, pl_2, pl_3, pl_4, pl_5, pl_6, pl_7, pl_8, pl_9, pl_10, pl_11, pl_12, pl_13, pl_14, pl_15, pl_16, pl_17, pl_18, pl_19, pl_20, pl_21, pl_30, pl_40, pl_50, pl_51, pl_60, pl_70, pl_71, pl_99, pl_100, pl_160, pl_240, pl_256, pl_300, pl_999, pl_1000, pl_1280, pl_9999, pl_10000, pu_neg, pu_nn, pu_le, pu_lt, pu_eq, pu_cl, pu_in, pu_g, ↓pu_let, ↓pu_bind, pu_m1, pu_add, pu_mul, Nat.not_lt_zero, if_false, if_true, Nat.zero_le, pu_d2, pu_d100, pu_em1, ↓reduceIte, Nat.reduceEqDiff, Nat.reduceLT, Nat.reduceLeDiff, Nat.reduceAdd, Nat.reduceMul, Nat.reduceSub, not_true_eq_false, not_false_eq_true, and_true, true_and, and_false, false_and, or_true, true_or, or_false, false_or, Nat.lt_irrefl, Nat.le_refl, Nat.add_zero, Bool.false_eq_true, ↓pu_gI, nd_le, nd_leT, nd_lt, nd_ltT, nd_eq, nd_eqT, pu_ng]
            rw [hA2 hA]
        · intro n' b hb
          rcases hb with ⟨rfl, hA⟩ | ⟨rfl, hA⟩
          · simp (disch := omega) only [Md_barsOfLetter_l10, pl_0, pl_1, pl_2, pl_3, pl_4, pl_5, pl_6, pl_7, pl_8, pl_9, pl_10, pl_11, pl_12, pl_13, pl_14, pl_15, pl_16, pl_17, pl_18, pl_19, pl_20, pl_21, pl_30, pl_40, pl_50, pl_51, pl_60, pl_70, pl_71, pl_99, pl_100, pl_160, pl_240, pl_256, pl_300, pl_999, pl_1000, pl_1280, pl_9999, pl_10000, pu_neg, pu_nn, pu_le, pu_lt, pu_eq, pu_cl, pu_in, pu_g, ↓pu_let, ↓pu_bind, pu_m1, pu_add, pu_mul, Nat.not_lt_zero, if_false, if_true, Nat.zero_le, pu_d2, pu_d100, pu_em1, ↓reduceIte, Nat.reduceEqDiff, Nat.reduceLT, Nat.reduceLeDiff, Nat.reduceAdd, Nat.reduceMul, Nat.reduceSub, not_true_eq_false, not_false_eq_true, and_true, true_and, and_false, false_and, or_true, true_or, or_false, false_or, Nat.lt_irrefl, Nat.le_refl, Nat.add_zero, Bool.false_eq_true, ↓pu_gI, nd_le, nd_leT, nd_lt, nd_ltT, nd_eq, nd_eqT]
            rw [hA1 hA]
          · simp (disch := omega) only [Md_barsOfLetter_l10, pl_0, pl_1, pl_2, pl_3, pl_4, pl_5, pl_6, pl_7, pl_8, pl_9, pl_10, pl_11, pl_12, pl_13, pl_14, pl_15, pl_16, pl_17, pl_18, pl_19, pl_20, pl_21, pl_30, pl_40, pl_50, pl_51, pl_60, pl_70, pl_71, pl_99, pl_100, pl_160, pl_240, pl_256, pl_300, pl_999, pl_1000, pl_1280, pl_9999, pl_10000, pu_neg, pu_nn, pu_le, pu_lt, pu_eq, pu_cl, pu_in, pu_g, ↓pu_let, ↓pu_bind, pu_m1, pu_add, pu_mul, Nat.not_lt_zero, if_false, if_true, Nat.zero_le, pu_d2, pu_d100, pu_em1, ↓reduceIte, Nat.reduceEqDiff, Nat.reduceLT, Nat.reduceLeDiff, Nat.reduceAdd, Nat.reduceMul, Nat.reduceSub, not_true_eq_false, not_false_eq_true, and_true, true_and, and_false, false_and, or_true, true_or, or_false, false_or, Nat.lt_irrefl, Nat.le_refl, Nat.add_zero, Bool.false_eq_true, ↓pu_gI, nd_le, nd_leT, nd_lt, nd_ltT, nd_eq, nd_eqT]
            rw [hA2 hA]
      refine hfin _ (fun hA => ?_) (fun hA => ?_)
      · simp [z, hA]
      · simp [z, hA]
    · rw [if_neg z, stop 6 (by omega) (by omega), if_neg (show ¬ (n ≤ 40 ∧ allF (wiB E s 7) n = true) by omega)]
      rfl
  · rw [if_neg c, if_pos c, if_neg c, stop (cfN U s n) (by omega) (by omega)]
end LET
