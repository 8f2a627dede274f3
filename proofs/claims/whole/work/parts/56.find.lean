/-! searches over sets -/
def abK (T : is_T) : Nat := orF T (atB T 1) 8
def mkB (T : is_T) (x : Nat) : Bool := decide (knS T x ||| abK T = 2 ^ T 0 7 - 1)
def fwG (T : is_T) (x : Nat) (b : Nat × Nat) : Nat × Nat := if mkB T x && decide (pcN x < b.2) then (x + 1, pcN x) else b
def chG (T : is_T) (x : Nat) (b : Nat) : Nat := if mkB T x && (decide (b = 0) || decide (prS T x < prS T (b - 1))) then x + 1 else b
def anB (T : is_T) (k x : Nat) : Bool := decide (knS T x = 2 ^ T 0 7 - 1) && decide (pcN x ≤ k)
def bfG (T : is_T) (x : Nat) (b : Nat × Nat) : Nat × Nat := if decide (prS T x ≤ T 0 9) && (decide (b.2 < pcN (knS T x ||| abK T) + 1) || (decide (pcN (knS T x ||| abK T) + 1 = b.2) && decide (prS T x < prS T b.1))) then (x, pcN (knS T x ||| abK T) + 1) else b
theorem fwG_t {T : is_T} {x : Nat} {b : Nat × Nat} (h : (mkB T x && decide (pcN x < b.2)) = true) : fwG T x b = (x + 1, pcN x) := if_pos h
theorem fwG_f {T : is_T} {x : Nat} {b : Nat × Nat} (h : (mkB T x && decide (pcN x < b.2)) = false) : fwG T x b = b := if_neg (by rw [h]; decide)
theorem fwG_le {T : is_T} {x : Nat} {b : Nat × Nat} (hx : x < 256) (h : b.1 ≤ 256 ∧ b.2 ≤ 9) : (fwG T x b).1 ≤ 256 ∧ (fwG T x b).2 ≤ 9 := by
  have := pcN_le x
  cases e : (mkB T x && decide (pcN x < b.2)) with
  | true => rw [fwG_t e]; exact ⟨by show x + 1 ≤ 256; omega, by show pcN x ≤ 9; omega⟩
  | false => rw [fwG_f e]; exact h
theorem abK_lt {T : is_T} (hI : IslI T) : abK T < 256 := orF_lt hI _ 8 (by omega)
theorem or_lt8 {a b : Nat} (ha : a < 256) (hb : b < 256) : a ||| b < 256 := Nat.or_lt_two_pow (n := 8) ha hb
theorem fdL_s {β : Type} (g : Nat → β → β) (L : List Nat) (b : β) (n : Nat) : fdL g L b (n + 1) = g (L.getD n 0) (fdL g L b n) := rfl
theorem orF_or (T : is_T) (f g : Nat → Bool) : ∀ n, orF T (fun i => f i || g i) n = orF T f n ||| orF T g n := by
  intro n
  induction n with
  | zero => simp [orF]
  | succ n ih =>
    show (if (f n || g n) then orF T (fun i => f i || g i) n ||| T 4 n else orF T (fun i => f i || g i) n) = (if f n then orF T f n ||| T 4 n else orF T f n) ||| (if g n then orF T g n ||| T 4 n else orF T g n)
    rw [ih]
    cases f n <;> cases g n
    all_goals simp only [Bool.or_self, Bool.or_true, Bool.true_or, Bool.false_or, Bool.or_false, if_true, Bool.false_eq_true, if_false]
    all_goals
      apply Nat.eq_of_testBit_eq
      intro i
      simp only [Nat.testBit_or]
      cases (orF T f n).testBit i <;> cases (orF T g n).testBit i <;> cases (T 4 n).testBit i <;> rfl
section SRC
variable {σ : nm_St} {T : is_T} {L : List Nat}
theorem se_fewest (hI : IslI T) (hL : LA T σ L) (hn : L.length ≤ 256) (hx : ∀ i, i < L.length → L.getD i 0 < 256) : Se_fewestThatMake (nI (abK T)) (nI (2 ^ T 0 7 - 1)) σ = some (nI (fdL (fwG T) L (0, 9) L.length).1 - nI 1, σ) := by
  have h2 := pu_p2 hI.2.1.2
  have hK := abK_lt hI
  unfold Se_fewestThatMake
  simp only [pl_0, pl_1, pl_2, pl_3, pl_4, pl_5, pl_6, pl_7, pl_8, pl_9, pl_10, pl_11, pl_12, pl_13, pl_14, pl_15, pl_16, pl_17, pl_18, pl_19, pl_20, pl_21, pl_30, pl_40, pl_50, pl_51, pl_60, pl_70, pl_71, pl_99, pl_100, pl_160, pl_240, pl_256, pl_300, pl_999, pl_1000, pl_1280, pl_9999, pl_10000]
  rw [← pu_01]
  refine lp_Q (fun n i (_ : Unit) => Se_fewestThatMake_l9 _ n (nI (abK T)) (nI (2 ^ T 0 7 - 1)) (nI (fdL (fwG T) L (0, 9) i).1 - nI 1) (nI (fdL (fwG T) L (0, 9) i).2) (nI i) σ) L.length (fun i _ => (fdL (fwG T) L (0, 9) i).1 ≤ 256 ∧ (fdL (fwG T) L (0, 9) i).2 ≤ 9) (fun r => r = some (nI (fdL (fwG T) L (0, 9) L.length).1 - nI 1, σ)) ?_ ?_ 400 0 () (by omega) ⟨Nat.zero_le _, Nat.le_refl _⟩ (by omega)
  · intro n i _ hi hp ih
    obtain ⟨q1, q2, q3⟩ := hL.2 i hi
    have hxi := hx i hi
    have hkn := or_lt8 (knS_lt hI (L.getD i 0)) hK
    have hpc := pcN_le (L.getD i 0)
    have hs := ih () (by rw [fdL_s]; exact fwG_le hxi hp)
    rw [fdL_s] at hs
    generalize fdL (fwG T) L (0, 9) i = s at *
    generalize L.getD i 0 = x at *
    cases e : (mkB T x && decide (pcN x < s.2)) with
    | true =>
      rw [fwG_t e] at hs
      simp only [pu_pred] at hs
      simp only [mkB, Bool.and_eq_true, decide_eq_true_eq] at e
      simp (disch := omega) only [Se_fewestThatMake_l9, pl_0, pl_1, pl_2, pl_3, pl_4, pl_5, pl_6, pl_7, pl_8, pl_9, pl_10, pl_11, pl_12, pl_13, pl_14, pl_15, pl_16, pl_17, pl_18, pl_19, pl_20, pl_21, pl_30, pl_40, pl_50, pl_51, pl_60, pl_70, pl_71, pl_99, pl_100, pl_160, pl_240, pl_256, pl_300, pl_999, pl_1000, pl_1280, pl_9999, pl_10000, pu_neg, pu_nn, pu_le, pu_lt, pu_eq, pu_cl, pu_in, pu_g, ↓pu_let, ↓pu_bind, pu_m1, pu_add, pu_mul, Nat.not_lt_zero, if_false, if_true, Nat.zero_le, pu_d2, pu_d100, pu_em1, ↓reduceIte, Nat.reduceEqDiff, Nat.reduceLT, Nat.reduceLeDiff, Nat.reduceAdd, Nat.reduceMul, Nat.reduceSub, not_true_eq_false, not_false_eq_true, and_true, true_and, and_false, false_and, or_true, true_or, or_false, false_or, Nat.lt_irrefl, Nat.le_refl, Nat.add_zero, Bool.false_eq_true, ↓pu_gI, nd_le, nd_leT, nd_lt, nd_ltT, nd_eq, nd_eqT, hL.1, q1, q3, ji_bc hxi, fa_or, e.1]
      exact hs
    | false =>
      rw [fwG_f e] at hs
      by_cases a : knS T x ||| abK T = 2 ^ T 0 7 - 1
      · have b : ¬ pcN x < s.2 := by
          unfold mkB at e
          simpa [a] using e
        simp (disch := omega) only [Se_fewestThatMake_l9, pl_0, pl_1, pl_2, pl_3, pl_4, pl_5, pl_6, pl_7, pl_8, pl_9, pl_10, pl_11, pl_12, pl_13, pl_14, pl_15, pl_16, pl_17, pl_18, pl_19, pl_20, pl_21, pl_30, pl_40, pl_50, pl_51, pl_60, pl_70, pl_71, pl_99, pl_100, pl_160, pl_240, pl_256, pl_300, pl_999, pl_1000, pl_1280, pl_9999, pl_10000, pu_neg, pu_nn, pu_le, pu_lt, pu_eq, pu_cl, pu_in, pu_g, ↓pu_let, ↓pu_bind, pu_m1, pu_add, pu_mul, Nat.not_lt_zero, if_false, if_true, Nat.zero_le, pu_d2, pu_d100, pu_em1, ↓reduceIte, Nat.reduceEqDiff, Nat.reduceLT, Nat.reduceLeDiff, Nat.reduceAdd, Nat.reduceMul, Nat.reduceSub, not_true_eq_false, not_false_eq_true, and_true, true_and, and_false, false_and, or_true, true_or, or_false, false_or, Nat.lt_irrefl, Nat.le_refl, Nat.add_zero, Bool.false_eq_true, ↓pu_gI, nd_le, nd_leT, nd_lt, nd_ltT, nd_eq, nd_eqT, hL.1, q1, q3, ji_bc hxi, fa_or, a]
        exact hs
      · simp (disch := omega) only [Se_fewestThatMake_l9, pl_0, pl_1, pl_2, pl_3, pl_4, pl_5, pl_6, pl_7, pl_8, pl_9, pl_10, pl_11, pl_12, pl_13, pl_14, pl_15, pl_16, pl_17, pl_18, pl_19, pl_20, pl_21, pl_30, pl_40, pl_50, pl_51, pl_60, pl_70, pl_71, pl_99, pl_100, pl_160, pl_240, pl_256, pl_300, pl_999, pl_1000, pl_1280, pl_9999, pl_10000, pu_neg, pu_nn, pu_le, pu_lt, pu_eq, pu_cl, pu_in, pu_g, ↓pu_let, ↓pu_bind, pu_m1, pu_add, pu_mul, Nat.not_lt_zero, if_false, if_true, Nat.zero_le, pu_d2, pu_d100, pu_em1, ↓reduceIte, Nat.reduceEqDiff, Nat.reduceLT, Nat.reduceLeDiff, Nat.reduceAdd, Nat.reduceMul, Nat.reduceSub, not_true_eq_false, not_false_eq_true, and_true, true_and, and_false, false_and, or_true, true_or, or_false, false_or, Nat.lt_irrefl, Nat.le_refl, Nat.add_zero, Bool.false_eq_true, ↓pu_gI, nd_le, nd_leT, nd_lt, nd_ltT, nd_eq, nd_eqT, hL.1, q1, q3, ji_bc hxi, fa_or, a]
        exact hs
  · intro n _ _
    simp (disch := omega) only [Se_fewestThatMake_l9, pl_0, pl_1, pl_2, pl_3, pl_4, pl_5, pl_6, pl_7, pl_8, pl_9, pl_10, pl_11, pl_12, pl_13, pl_14, pl_15, pl_16, pl_17, pl_18, pl_19, pl_20, pl_21, pl_30, pl_40, pl_50, pl_51, pl_60, pl_70, pl_71, pl_99, pl_100, pl_160, pl_240, pl_256, pl_300, pl_999, pl_1000, pl_1280, pl_9999, pl_10000, pu_neg, pu_nn, pu_le, pu_lt, pu_eq, pu_cl, pu_in, pu_g, ↓pu_let, ↓pu_bind, pu_m1, pu_add, pu_mul, Nat.not_lt_zero, if_false, if_true, Nat.zero_le, pu_d2, pu_d100, pu_em1, ↓reduceIte, Nat.reduceEqDiff, Nat.reduceLT, Nat.reduceLeDiff, Nat.reduceAdd, Nat.reduceMul, Nat.reduceSub, not_true_eq_false, not_false_eq_true, and_true, true_and, and_false, false_and, or_true, true_or, or_false, false_or, Nat.lt_irrefl, Nat.le_refl, Nat.add_zero, Bool.false_eq_true, ↓pu_gI, nd_le, nd_leT, nd_lt, nd_ltT, nd_eq, nd_eqT, hL.1]
theorem chG_t {x b : Nat} (h : (mkB T x && (decide (b = 0) || decide (prS T x < prS T (b - 1)))) = true) : chG T x b = x + 1 := if_pos h
theorem chG_f {x b : Nat} (h : (mkB T x && (decide (b = 0) || decide (prS T x < prS T (b - 1)))) = false) : chG T x b = b := if_neg (by rw [h]; decide)
/-- a place in the list that stands for what was found -/
def plR (L : List Nat) (i b : Nat) (j : Int32) : Prop := (b = 0 ∧ j = -nI 1) ∨ ∃ k, k < i ∧ j = nI k ∧ L.getD k 0 + 1 = b
theorem se_cheap (hI : IslI T) (hL : LA T σ L) (hn : L.length ≤ 256) : ∃ j, Se_cheapestThatMakes (nI (abK T)) (nI (2 ^ T 0 7 - 1)) σ = some (j, σ) ∧ plR L L.length (fdL (chG T) L 0 L.length) j := by
  have h2 := pu_p2 hI.2.1.2
  have hK := abK_lt hI
  unfold Se_cheapestThatMakes
  simp only [pl_0, pl_1, pl_2, pl_3, pl_4, pl_5, pl_6, pl_7, pl_8, pl_9, pl_10, pl_11, pl_12, pl_13, pl_14, pl_15, pl_16, pl_17, pl_18, pl_19, pl_20, pl_21, pl_30, pl_40, pl_50, pl_51, pl_60, pl_70, pl_71, pl_99, pl_100, pl_160, pl_240, pl_256, pl_300, pl_999, pl_1000, pl_1280, pl_9999, pl_10000]
  refine lp_Q (fun n i (j : Int32) => Se_cheapestThatMakes_l5 _ n (nI (abK T)) (nI (2 ^ T 0 7 - 1)) j (nI i) σ) L.length (fun i j => plR L i (fdL (chG T) L 0 i) j) (fun r => ∃ j, r = some (j, σ) ∧ plR L L.length (fdL (chG T) L 0 L.length) j) ?_ ?_ 400 0 (-nI 1) (by omega) (Or.inl ⟨rfl, rfl⟩) (by omega)
  · intro n i j hi hp ih
    obtain ⟨q1, q2, q3⟩ := hL.2 i hi
    have hkn := or_lt8 (knS_lt hI (L.getD i 0)) hK
    have hpr := prS_le hI (L.getD i 0)
    have keep : (mkB T (L.getD i 0) && (decide (fdL (chG T) L 0 i = 0) || decide (prS T (L.getD i 0) < prS T (fdL (chG T) L 0 i - 1)))) = false → ∃ j', Se_cheapestThatMakes_l5 (fun (e10 : Int32) (s9 : nm_St) => some (e10, s9)) n (nI (abK T)) (nI (2 ^ T 0 7 - 1)) j (nI (i + 1)) σ = some (j', σ) ∧ plR L L.length (fdL (chG T) L 0 L.length) j' := fun e => ih j (by
      rw [fdL_s, chG_f e]
      rcases hp with a | ⟨k, a1, a2⟩
      · exact Or.inl a
      · exact Or.inr ⟨k, by omega, a2⟩)
    have take : (mkB T (L.getD i 0) && (decide (fdL (chG T) L 0 i = 0) || decide (prS T (L.getD i 0) < prS T (fdL (chG T) L 0 i - 1)))) = true → ∃ j', Se_cheapestThatMakes_l5 (fun (e10 : Int32) (s9 : nm_St) => some (e10, s9)) n (nI (abK T)) (nI (2 ^ T 0 7 - 1)) (nI i) (nI (i + 1)) σ = some (j', σ) ∧ plR L L.length (fdL (chG T) L 0 L.length) j' := fun e => ih (nI i) (by
      rw [fdL_s, chG_t e]
      exact Or.inr ⟨i, by omega, rfl, rfl⟩)
    by_cases a : knS T (L.getD i 0) ||| abK T = 2 ^ T 0 7 - 1
    · have ma : mkB T (L.getD i 0) = true := decide_eq_true a
      rw [ma, Bool.true_and] at keep take
      rcases hp with ⟨b0, rfl⟩ | ⟨k, hk, rfl, hb⟩
      · have := take (by rw [b0]; rfl)
        simp (disch := omega) only [Se_cheapestThatMakes_l5, Se_cheapestThatMakes_j32, pl_0, pl_1, pl_2, pl_3, pl_4, pl_5, pl_6, pl_7, pl_8, pl_9, pl_10, pl_11, pl_12, pl_13, pl_14, pl_15, pl_16, pl_17, pl_18, pl_19, pl_20, pl_21, pl_30, pl_40, pl_50, pl_51, pl_60, pl_70, pl_71, pl_99, pl_100, pl_160, pl_240, pl_256, pl_300, pl_999, pl_1000, pl_1280, pl_9999, pl_10000, pu_neg, pu_nn, pu_le, pu_lt, pu_eq, pu_cl, pu_in, pu_g, ↓pu_let, ↓pu_bind, pu_m1, pu_add, pu_mul, Nat.not_lt_zero, if_false, if_true, Nat.zero_le, pu_d2, pu_d100, pu_em1, ↓reduceIte, Nat.reduceEqDiff, Nat.reduceLT, Nat.reduceLeDiff, Nat.reduceAdd, Nat.reduceMul, Nat.reduceSub, not_true_eq_false, not_false_eq_true, and_true, true_and, and_false, false_and, or_true, true_or, or_false, false_or, Nat.lt_irrefl, Nat.le_refl, Nat.add_zero, Bool.false_eq_true, ↓pu_gI, nd_le, nd_leT, nd_lt, nd_ltT, nd_eq, nd_eqT, hL.1, q3, fa_or, a, pu_10]
        exact this
      · have hprk := prS_le hI (L.getD k 0)
        have q2k := (hL.2 k (by omega)).2.1
        rw [← hb] at keep take
        simp only [Nat.add_sub_cancel, Nat.add_eq_zero_iff, Nat.one_ne_zero, and_false, decide_false, Bool.false_or] at keep take
        by_cases z : prS T (L.getD i 0) < prS T (L.getD k 0)
        · have := take (decide_eq_true z)
          simp (disch := omega) only [Se_cheapestThatMakes_l5, Se_cheapestThatMakes_j32, pl_0, pl_1, pl_2, pl_3, pl_4, pl_5, pl_6, pl_7, pl_8, pl_9, pl_10, pl_11, pl_12, pl_13, pl_14, pl_15, pl_16, pl_17, pl_18, pl_19, pl_20, pl_21, pl_30, pl_40, pl_50, pl_51, pl_60, pl_70, pl_71, pl_99, pl_100, pl_160, pl_240, pl_256, pl_300, pl_999, pl_1000, pl_1280, pl_9999, pl_10000, pu_neg, pu_nn, pu_le, pu_lt, pu_eq, pu_cl, pu_in, pu_g, ↓pu_let, ↓pu_bind, pu_m1, pu_add, pu_mul, Nat.not_lt_zero, if_false, if_true, Nat.zero_le, pu_d2, pu_d100, pu_em1, ↓reduceIte, Nat.reduceEqDiff, Nat.reduceLT, Nat.reduceLeDiff, Nat.reduceAdd, Nat.reduceMul, Nat.reduceSub, not_true_eq_false, not_false_eq_true, and_true, true_and, and_false, false_and, or_true, true_or, or_false, false_or, Nat.lt_irrefl, Nat.le_refl, Nat.add_zero, Bool.false_eq_true, ↓pu_gI, nd_le, nd_leT, nd_lt, nd_ltT, nd_eq, nd_eqT, hL.1, q3, q2, q2k, fa_or, a, pu_10]
          exact this
        · have := keep (decide_eq_false z)
          simp (disch := omega) only [Se_cheapestThatMakes_l5, Se_cheapestThatMakes_j32, pl_0, pl_1, pl_2, pl_3, pl_4, pl_5, pl_6, pl_7, pl_8, pl_9, pl_10, pl_11, pl_12, pl_13, pl_14, pl_15, pl_16, pl_17, pl_18, pl_19, pl_20, pl_21, pl_30, pl_40, pl_50, pl_51, pl_60, pl_70, pl_71, pl_99, pl_100, pl_160, pl_240, pl_256, pl_300, pl_999, pl_1000, pl_1280, pl_9999, pl_10000, pu_neg, pu_nn, pu_le, pu_lt, pu_eq, pu_cl, pu_in, pu_g, ↓pu_let, ↓pu_bind, pu_m1, pu_add, pu_mul, Nat.not_lt_zero, if_false, if_true, Nat.zero_le, pu_d2, pu_d100, pu_em1, ↓reduceIte, Nat.reduceEqDiff, Nat.reduceLT, Nat.reduceLeDiff, Nat.reduceAdd, Nat.reduceMul, Nat.reduceSub, not_true_eq_false, not_false_eq_true, and_true, true_and, and_false, false_and, or_true, true_or, or_false, false_or, Nat.lt_irrefl, Nat.le_refl, Nat.add_zero, Bool.false_eq_true, ↓pu_gI, nd_le, nd_leT, nd_lt, nd_ltT, nd_eq, nd_eqT, hL.1, q3, q2, q2k, fa_or, a, pu_10]
          exact this
    · have ma : mkB T (L.getD i 0) = false := decide_eq_false a
      have := keep (by rw [ma]; rfl)
      simp (disch := omega) only [Se_cheapestThatMakes_l5, Se_cheapestThatMakes_j32, pl_0, pl_1, pl_2, pl_3, pl_4, pl_5, pl_6, pl_7, pl_8, pl_9, pl_10, pl_11, pl_12, pl_13, pl_14, pl_15, pl_16, pl_17, pl_18, pl_19, pl_20, pl_21, pl_30, pl_40, pl_50, pl_51, pl_60, pl_70, pl_71, pl_99, pl_100, pl_160, pl_240, pl_256, pl_300, pl_999, pl_1000, pl_1280, pl_9999, pl_10000, pu_neg, pu_nn, pu_le, pu_lt, pu_eq, pu_cl, pu_in, pu_g, ↓pu_let, ↓pu_bind, pu_m1, pu_add, pu_mul, Nat.not_lt_zero, if_false, if_true, Nat.zero_le, pu_d2, pu_d100, pu_em1, ↓reduceIte, Nat.reduceEqDiff, Nat.reduceLT, Nat.reduceLeDiff, Nat.reduceAdd, Nat.reduceMul, Nat.reduceSub, not_true_eq_false, not_false_eq_true, and_true, true_and, and_false, false_and, or_true, true_or, or_false, false_or, Nat.lt_irrefl, Nat.le_refl, Nat.add_zero, Bool.false_eq_true, ↓pu_gI, nd_le, nd_leT, nd_lt, nd_ltT, nd_eq, nd_eqT, hL.1, q3, fa_or, a]
      exact this
  · intro n j hp
    simp (disch := omega) only [Se_cheapestThatMakes_l5, pl_0, pl_1, pl_2, pl_3, pl_4, pl_5, pl_6, pl_7, pl_8, pl_9, pl_10, pl_11, pl_12, pl_13, pl_14, pl_15, pl_16, pl_17, pl_18, pl_19, pl_20, pl_21, pl_30, pl_40, pl_50, pl_51, pl_60, pl_70, pl_71, pl_99, pl_100, pl_160, pl_240, pl_256, pl_300, pl_999, pl_1000, pl_1280, pl_9999, pl_10000, pu_neg, pu_nn, pu_le, pu_lt, pu_eq, pu_cl, pu_in, pu_g, ↓pu_let, ↓pu_bind, pu_m1, pu_add, pu_mul, Nat.not_lt_zero, if_false, if_true, Nat.zero_le, pu_d2, pu_d100, pu_em1, ↓reduceIte, Nat.reduceEqDiff, Nat.reduceLT, Nat.reduceLeDiff, Nat.reduceAdd, Nat.reduceMul, Nat.reduceSub, not_true_eq_false, not_false_eq_true, and_true, true_and, and_false, false_and, or_true, true_or, or_false, false_or, Nat.lt_irrefl, Nat.le_refl, Nat.add_zero, Bool.false_eq_true, ↓pu_gI, nd_le, nd_leT, nd_lt, nd_ltT, nd_eq, nd_eqT, hL.1]
    exact ⟨j, rfl, hp⟩
theorem se_any (hI : IslI T) (hL : LA T σ L) (hn : L.length ≤ 256) (hx : ∀ i, i < L.length → L.getD i 0 < 256) {k : Nat} (hk : k ≤ 8) : Se_anyMakes (nI k) (nI (2 ^ T 0 7 - 1)) σ = some (nI (if fdL (fun x b => b || anB T k x) L false L.length then 1 else 0), σ) := by
  have h2 := pu_p2 hI.2.1.2
  have stay : ∀ i, fdL (fun x b => b || anB T k x) L false i = true → ∀ j, i ≤ j → fdL (fun x b => b || anB T k x) L false j = true := by
    intro i h j
    induction j with
    | zero => intro hj; rw [show 0 = i by omega]; exact h
    | succ j ih =>
      intro hj
      by_cases e : i = j + 1
      · rw [← e]; exact h
      · rw [fdL_s, ih (by omega)]; rfl
  unfold Se_anyMakes
  simp only [pl_0, pl_1, pl_2, pl_3, pl_4, pl_5, pl_6, pl_7, pl_8, pl_9, pl_10, pl_11, pl_12, pl_13, pl_14, pl_15, pl_16, pl_17, pl_18, pl_19, pl_20, pl_21, pl_30, pl_40, pl_50, pl_51, pl_60, pl_70, pl_71, pl_99, pl_100, pl_160, pl_240, pl_256, pl_300, pl_999, pl_1000, pl_1280, pl_9999, pl_10000]
  refine lp_Q (fun n i (_ : Unit) => Se_anyMakes_l2 _ n (nI k) (nI (2 ^ T 0 7 - 1)) (nI i) σ) L.length (fun i _ => fdL (fun x b => b || anB T k x) L false i = false) (fun r => r = some (nI (if fdL (fun x b => b || anB T k x) L false L.length then 1 else 0), σ)) ?_ ?_ 400 0 () (by omega) rfl (by omega)
  · intro n i _ hi hp ih
    obtain ⟨q1, q2, q3⟩ := hL.2 i hi
    have hxi := hx i hi
    have hkn := knS_lt hI (L.getD i 0)
    have hpc := pcN_le (L.getD i 0)
    cases e : anB T k (L.getD i 0) with
    | true =>
      have h3 := stay (i + 1) (by rw [fdL_s, e, Bool.or_true]) L.length (by omega)
      rw [h3]
      simp only [anB, Bool.and_eq_true, decide_eq_true_eq] at e
      simp (disch := omega) only [Se_anyMakes_l2, pl_0, pl_1, pl_2, pl_3, pl_4, pl_5, pl_6, pl_7, pl_8, pl_9, pl_10, pl_11, pl_12, pl_13, pl_14, pl_15, pl_16, pl_17, pl_18, pl_19, pl_20, pl_21, pl_30, pl_40, pl_50, pl_51, pl_60, pl_70, pl_71, pl_99, pl_100, pl_160, pl_240, pl_256, pl_300, pl_999, pl_1000, pl_1280, pl_9999, pl_10000, pu_neg, pu_nn, pu_le, pu_lt, pu_eq, pu_cl, pu_in, pu_g, ↓pu_let, ↓pu_bind, pu_m1, pu_add, pu_mul, Nat.not_lt_zero, if_false, if_true, Nat.zero_le, pu_d2, pu_d100, pu_em1, ↓reduceIte, Nat.reduceEqDiff, Nat.reduceLT, Nat.reduceLeDiff, Nat.reduceAdd, Nat.reduceMul, Nat.reduceSub, not_true_eq_false, not_false_eq_true, and_true, true_and, and_false, false_and, or_true, true_or, or_false, false_or, Nat.lt_irrefl, Nat.le_refl, Nat.add_zero, Bool.false_eq_true, ↓pu_gI, nd_le, nd_leT, nd_lt, nd_ltT, nd_eq, nd_eqT, hL.1, q1, q3, ji_bc hxi, e.1]
    | false =>
      have hs := ih () (by rw [fdL_s, e, hp]; rfl)
      by_cases a : knS T (L.getD i 0) = 2 ^ T 0 7 - 1
      · have b : ¬ pcN (L.getD i 0) ≤ k := by
          unfold anB at e
          rw [decide_eq_true a, Bool.true_and, decide_eq_false_iff_not] at e
          exact e
        simp (disch := omega) only [Se_anyMakes_l2, pl_0, pl_1, pl_2, pl_3, pl_4, pl_5, pl_6, pl_7, pl_8, pl_9, pl_10, pl_11, pl_12, pl_13, pl_14, pl_15, pl_16, pl_17, pl_18, pl_19, pl_20, pl_21, pl_30, pl_40, pl_50, pl_51, pl_60, pl_70, pl_71, pl_99, pl_100, pl_160, pl_240, pl_256, pl_300, pl_999, pl_1000, pl_1280, pl_9999, pl_10000, pu_neg, pu_nn, pu_le, pu_lt, pu_eq, pu_cl, pu_in, pu_g, ↓pu_let, ↓pu_bind, pu_m1, pu_add, pu_mul, Nat.not_lt_zero, if_false, if_true, Nat.zero_le, pu_d2, pu_d100, pu_em1, ↓reduceIte, Nat.reduceEqDiff, Nat.reduceLT, Nat.reduceLeDiff, Nat.reduceAdd, Nat.reduceMul, Nat.reduceSub, not_true_eq_false, not_false_eq_true, and_true, true_and, and_false, false_and, or_true, true_or, or_false, false_or, Nat.lt_irrefl, Nat.le_refl, Nat.add_zero, Bool.false_eq_true, ↓pu_gI, nd_le, nd_leT, nd_lt, nd_ltT, nd_eq, nd_eqT, hL.1, q1, q3, ji_bc hxi, a]
        exact hs
      · simp (disch := omega) only [Se_anyMakes_l2, pl_0, pl_1, pl_2, pl_3, pl_4, pl_5, pl_6, pl_7, pl_8, pl_9, pl_10, pl_11, pl_12, pl_13, pl_14, pl_15, pl_16, pl_17, pl_18, pl_19, pl_20, pl_21, pl_30, pl_40, pl_50, pl_51, pl_60, pl_70, pl_71, pl_99, pl_100, pl_160, pl_240, pl_256, pl_300, pl_999, pl_1000, pl_1280, pl_9999, pl_10000, pu_neg, pu_nn, pu_le, pu_lt, pu_eq, pu_cl, pu_in, pu_g, ↓pu_let, ↓pu_bind, pu_m1, pu_add, pu_mul, Nat.not_lt_zero, if_false, if_true, Nat.zero_le, pu_d2, pu_d100, pu_em1, ↓reduceIte, Nat.reduceEqDiff, Nat.reduceLT, Nat.reduceLeDiff, Nat.reduceAdd, Nat.reduceMul, Nat.reduceSub, not_true_eq_false, not_false_eq_true, and_true, true_and, and_false, false_and, or_true, true_or, or_false, false_or, Nat.lt_irrefl, Nat.le_refl, Nat.add_zero, Bool.false_eq_true, ↓pu_gI, nd_le, nd_leT, nd_lt, nd_ltT, nd_eq, nd_eqT, hL.1, q1, q3, a]
        exact hs
  · intro n _ hp
    simp (disch := omega) only [Se_anyMakes_l2, pl_0, pl_1, pl_2, pl_3, pl_4, pl_5, pl_6, pl_7, pl_8, pl_9, pl_10, pl_11, pl_12, pl_13, pl_14, pl_15, pl_16, pl_17, pl_18, pl_19, pl_20, pl_21, pl_30, pl_40, pl_50, pl_51, pl_60, pl_70, pl_71, pl_99, pl_100, pl_160, pl_240, pl_256, pl_300, pl_999, pl_1000, pl_1280, pl_9999, pl_10000, pu_neg, pu_nn, pu_le, pu_lt, pu_eq, pu_cl, pu_in, pu_g, ↓pu_let, ↓pu_bind, pu_m1, pu_add, pu_mul, Nat.not_lt_zero, if_false, if_true, Nat.zero_le, pu_d2, pu_d100, pu_em1, ↓reduceIte, Nat.reduceEqDiff, Nat.reduceLT, Nat.reduceLeDiff, Nat.reduceAdd, Nat.reduceMul, Nat.reduceSub, not_true_eq_false, not_false_eq_true, and_true, true_and, and_false, false_and, or_true, true_or, or_false, false_or, Nat.lt_irrefl, Nat.le_refl, Nat.add_zero, Bool.false_eq_true, ↓pu_gI, nd_le, nd_leT, nd_lt, nd_ltT, nd_eq, nd_eqT, hL.1, hp]
theorem bfG_t {x : Nat} {b : Nat × Nat} (h : (decide (prS T x ≤ T 0 9) && (decide (b.2 < pcN (knS T x ||| abK T) + 1) || (decide (pcN (knS T x ||| abK T) + 1 = b.2) && decide (prS T x < prS T b.1)))) = true) : bfG T x b = (x, pcN (knS T x ||| abK T) + 1) := if_pos h
theorem bfG_f {x : Nat} {b : Nat × Nat} (h : (decide (prS T x ≤ T 0 9) && (decide (b.2 < pcN (knS T x ||| abK T) + 1) || (decide (pcN (knS T x ||| abK T) + 1 = b.2) && decide (prS T x < prS T b.1)))) = false) : bfG T x b = b := if_neg (by rw [h]; decide)
theorem sub_lt1 {a m : Nat} (ha : a ≤ 9) (hm : m ≤ 9) : (nI m - nI 1 < nI a) = (m < a + 1) := by
  apply propext
  by_cases z : m = 0
  · subst z
    rw [pu_01]
    constructor
    · intro _; omega
    · intro _
      refine Int32.lt_iff_toInt_lt.mpr ?_
      rw [nI_toInt (by omega), show (-nI 1 : Int32).toInt = -1 by decide +kernel]
      omega
  · obtain ⟨t, rfl⟩ : ∃ t, m = t + 1 := ⟨m - 1, by omega⟩
    rw [pu_pred, nI_ltI (by omega) (by omega)]
    omega
theorem sub_eq1 {a m : Nat} (ha : a ≤ 9) (hm : m ≤ 9) : (nI a = nI m - nI 1) = (a + 1 = m) := by
  apply propext
  by_cases z : m = 0
  · subst z
    rw [pu_01]
    constructor
    · intro h
      have := pu_em1 (m := a) (by omega)
      rw [this] at h
      cases h
    · intro h; omega
  · obtain ⟨t, rfl⟩ : ∃ t, m = t + 1 := ⟨m - 1, by omega⟩
    rw [pu_pred, nI_eq (by omega) (by omega)]
    omega
theorem se_best (hI : IslI T) (hL : LA T σ L) (h0 : 1 ≤ L.length) (hn : L.length ≤ 256) (hz : L.getD 0 0 = 0) : Se_bestFor (nI (T 0 9)) (nI (abK T)) σ = some (nI (fdL (bfG T) L (0, 0) L.length).1, σ) := by
  have hK := abK_lt hI
  have hq := hI.2.2.2.1
  unfold Se_bestFor
  simp only [pl_0, pl_1, pl_2, pl_3, pl_4, pl_5, pl_6, pl_7, pl_8, pl_9, pl_10, pl_11, pl_12, pl_13, pl_14, pl_15, pl_16, pl_17, pl_18, pl_19, pl_20, pl_21, pl_30, pl_40, pl_50, pl_51, pl_60, pl_70, pl_71, pl_99, pl_100, pl_160, pl_240, pl_256, pl_300, pl_999, pl_1000, pl_1280, pl_9999, pl_10000]
  rw [← pu_01]
  refine lp_Q (fun n i (j : Nat) => Se_bestFor_l8 _ n (nI (T 0 9)) (nI (abK T)) (nI j) (nI (fdL (bfG T) L (0, 0) i).2 - nI 1) (nI i) σ) L.length (fun i j => (j < L.length ∧ L.getD j 0 = (fdL (bfG T) L (0, 0) i).1) ∧ (fdL (bfG T) L (0, 0) i).2 ≤ 9) (fun r => r = some (nI (fdL (bfG T) L (0, 0) L.length).1, σ)) ?_ ?_ 400 0 0 (by omega) ⟨⟨by omega, hz⟩, Nat.zero_le _⟩ (by omega)
  · intro n i j hi hp ih
    obtain ⟨⟨j1, j2⟩, j3⟩ := hp
    obtain ⟨q1, q2, q3⟩ := hL.2 i hi
    obtain ⟨r1, r2, r3⟩ := hL.2 j j1
    have hkn := or_lt8 (knS_lt hI (L.getD i 0)) hK
    have hpr := prS_le hI (L.getD i 0)
    have hpr2 := prS_le hI (L.getD j 0)
    have hpc := pcN_le (knS T (L.getD i 0) ||| abK T)
    have hs : ∀ j' : Nat, ((j' < L.length ∧ L.getD j' 0 = (bfG T (L.getD i 0) (fdL (bfG T) L (0, 0) i)).1) ∧ (bfG T (L.getD i 0) (fdL (bfG T) L (0, 0) i)).2 ≤ 9) → Se_bestFor_l8 _ n (nI (T 0 9)) (nI (abK T)) (nI j') (nI (bfG T (L.getD i 0) (fdL (bfG T) L (0, 0) i)).2 - nI 1) (nI (i + 1)) σ = _ := fun j' h => ih j' h
    generalize fdL (bfG T) L (0, 0) i = s at *
    cases e : (decide (prS T (L.getD i 0) ≤ T 0 9) && (decide (s.2 < pcN (knS T (L.getD i 0) ||| abK T) + 1) || (decide (pcN (knS T (L.getD i 0) ||| abK T) + 1 = s.2) && decide (prS T (L.getD i 0) < prS T s.1)))) with
    | true =>
      rw [bfG_t e] at hs
      have hs2 := hs i ⟨⟨hi, rfl⟩, by show _ + 1 ≤ 9; omega⟩
      simp only [pu_pred] at hs2
      simp only [Bool.and_eq_true, Bool.or_eq_true, decide_eq_true_eq] at e
      obtain ⟨e1, e2⟩ := e
      by_cases a : s.2 < pcN (knS T (L.getD i 0) ||| abK T) + 1
      · simp (disch := omega) only [Se_bestFor_l8, Se_bestFor_j72, pl_0, pl_1, pl_2, pl_3, pl_4, pl_5, pl_6, pl_7, pl_8, pl_9, pl_10, pl_11, pl_12, pl_13, pl_14, pl_15, pl_16, pl_17, pl_18, pl_19, pl_20, pl_21, pl_30, pl_40, pl_50, pl_51, pl_60, pl_70, pl_71, pl_99, pl_100, pl_160, pl_240, pl_256, pl_300, pl_999, pl_1000, pl_1280, pl_9999, pl_10000, pu_neg, pu_nn, pu_le, pu_lt, pu_eq, pu_cl, pu_in, pu_g, ↓pu_let, ↓pu_bind, pu_m1, pu_add, pu_mul, Nat.not_lt_zero, if_false, if_true, Nat.zero_le, pu_d2, pu_d100, pu_em1, ↓reduceIte, Nat.reduceEqDiff, Nat.reduceLT, Nat.reduceLeDiff, Nat.reduceAdd, Nat.reduceMul, Nat.reduceSub, not_true_eq_false, not_false_eq_true, and_true, true_and, and_false, false_and, or_true, true_or, or_false, false_or, Nat.lt_irrefl, Nat.le_refl, Nat.add_zero, Bool.false_eq_true, ↓pu_gI, nd_le, nd_leT, nd_lt, nd_ltT, nd_eq, nd_eqT, hL.1, q2, q3, fa_or, ji_bc hkn, sub_lt1]
        exact hs2
      · obtain ⟨e3, e4⟩ := e2.resolve_left a
        rw [← j2] at e4
        simp (disch := omega) only [Se_bestFor_l8, Se_bestFor_j72, pl_0, pl_1, pl_2, pl_3, pl_4, pl_5, pl_6, pl_7, pl_8, pl_9, pl_10, pl_11, pl_12, pl_13, pl_14, pl_15, pl_16, pl_17, pl_18, pl_19, pl_20, pl_21, pl_30, pl_40, pl_50, pl_51, pl_60, pl_70, pl_71, pl_99, pl_100, pl_160, pl_240, pl_256, pl_300, pl_999, pl_1000, pl_1280, pl_9999, pl_10000, pu_neg, pu_nn, pu_le, pu_lt, pu_eq, pu_cl, pu_in, pu_g, ↓pu_let, ↓pu_bind, pu_m1, pu_add, pu_mul, Nat.not_lt_zero, if_false, if_true, Nat.zero_le, pu_d2, pu_d100, pu_em1, ↓reduceIte, Nat.reduceEqDiff, Nat.reduceLT, Nat.reduceLeDiff, Nat.reduceAdd, Nat.reduceMul, Nat.reduceSub, not_true_eq_false, not_false_eq_true, and_true, true_and, and_false, false_and, or_true, true_or, or_false, false_or, Nat.lt_irrefl, Nat.le_refl, Nat.add_zero, Bool.false_eq_true, ↓pu_gI, nd_le, nd_leT, nd_lt, nd_ltT, nd_eq, nd_eqT, hL.1, q2, q3, r2, fa_or, ji_bc hkn, sub_lt1, sub_eq1]
        exact hs2
    | false =>
      rw [bfG_f e] at hs
      have hs2 := hs j ⟨⟨j1, j2⟩, j3⟩
      by_cases a : prS T (L.getD i 0) ≤ T 0 9
      · have e' : ¬ s.2 < pcN (knS T (L.getD i 0) ||| abK T) + 1 ∧ (pcN (knS T (L.getD i 0) ||| abK T) + 1 = s.2 → ¬ prS T (L.getD i 0) < prS T s.1) := by
          rw [decide_eq_true a, Bool.true_and, Bool.or_eq_false_iff, Bool.and_eq_false_iff, decide_eq_false_iff_not, decide_eq_false_iff_not, decide_eq_false_iff_not] at e
          exact ⟨e.1, fun h => e.2.resolve_left (fun q => q h)⟩
        by_cases b : pcN (knS T (L.getD i 0) ||| abK T) + 1 = s.2
        · have e4 := e'.2 b
          rw [← j2] at e4
          simp (disch := omega) only [Se_bestFor_l8, Se_bestFor_j72, pl_0, pl_1, pl_2, pl_3, pl_4, pl_5, pl_6, pl_7, pl_8, pl_9, pl_10, pl_11, pl_12, pl_13, pl_14, pl_15, pl_16, pl_17, pl_18, pl_19, pl_20, pl_21, pl_30, pl_40, pl_50, pl_51, pl_60, pl_70, pl_71, pl_99, pl_100, pl_160, pl_240, pl_256, pl_300, pl_999, pl_1000, pl_1280, pl_9999, pl_10000, pu_neg, pu_nn, pu_le, pu_lt, pu_eq, pu_cl, pu_in, pu_g, ↓pu_let, ↓pu_bind, pu_m1, pu_add, pu_mul, Nat.not_lt_zero, if_false, if_true, Nat.zero_le, pu_d2, pu_d100, pu_em1, ↓reduceIte, Nat.reduceEqDiff, Nat.reduceLT, Nat.reduceLeDiff, Nat.reduceAdd, Nat.reduceMul, Nat.reduceSub, not_true_eq_false, not_false_eq_true, and_true, true_and, and_false, false_and, or_true, true_or, or_false, false_or, Nat.lt_irrefl, Nat.le_refl, Nat.add_zero, Bool.false_eq_true, ↓pu_gI, nd_le, nd_leT, nd_lt, nd_ltT, nd_eq, nd_eqT, hL.1, q2, q3, r2, fa_or, ji_bc hkn, sub_lt1, sub_eq1]
          exact hs2
        · simp (disch := omega) only [Se_bestFor_l8, Se_bestFor_j72, pl_0, pl_1, pl_2, pl_3, pl_4, pl_5, pl_6, pl_7, pl_8, pl_9, pl_10, pl_11, pl_12, pl_13, pl_14, pl_15, pl_16, pl_17, pl_18, pl_19, pl_20, pl_21, pl_30, pl_40, pl_50, pl_51, pl_60, pl_70, pl_71, pl_99, pl_100, pl_160, pl_240, pl_256, pl_300, pl_999, pl_1000, pl_1280, pl_9999, pl_10000, pu_neg, pu_nn, pu_le, pu_lt, pu_eq, pu_cl, pu_in, pu_g, ↓pu_let, ↓pu_bind, pu_m1, pu_add, pu_mul, Nat.not_lt_zero, if_false, if_true, Nat.zero_le, pu_d2, pu_d100, pu_em1, ↓reduceIte, Nat.reduceEqDiff, Nat.reduceLT, Nat.reduceLeDiff, Nat.reduceAdd, Nat.reduceMul, Nat.reduceSub, not_true_eq_false, not_false_eq_true, and_true, true_and, and_false, false_and, or_true, true_or, or_false, false_or, Nat.lt_irrefl, Nat.le_refl, Nat.add_zero, Bool.false_eq_true, ↓pu_gI, nd_le, nd_leT, nd_lt, nd_ltT, nd_eq, nd_eqT, hL.1, q2, q3, r2, fa_or, ji_bc hkn, sub_lt1, sub_eq1]
          exact hs2
      · simp (disch := omega) only [Se_bestFor_l8, Se_bestFor_j72, pl_0, pl_1, pl_2, pl_3, pl_4, pl_5, pl_6, pl_7, pl_8, pl_9, pl_10, pl_11, pl_12, pl_13, pl_14, pl_15, pl_16, pl_17, pl_18, pl_19, pl_20, pl_21, pl_30, pl_40, pl_50, pl_51, pl_60, pl_70, pl_71, pl_99, pl_100, pl_160, pl_240, pl_256, pl_300, pl_999, pl_1000, pl_1280, pl_9999, pl_10000, pu_neg, pu_nn, pu_le, pu_lt, pu_eq, pu_cl, pu_in, pu_g, ↓pu_let, ↓pu_bind, pu_m1, pu_add, pu_mul, Nat.not_lt_zero, if_false, if_true, Nat.zero_le, pu_d2, pu_d100, pu_em1, ↓reduceIte, Nat.reduceEqDiff, Nat.reduceLT, Nat.reduceLeDiff, Nat.reduceAdd, Nat.reduceMul, Nat.reduceSub, not_true_eq_false, not_false_eq_true, and_true, true_and, and_false, false_and, or_true, true_or, or_false, false_or, Nat.lt_irrefl, Nat.le_refl, Nat.add_zero, Bool.false_eq_true, ↓pu_gI, nd_le, nd_leT, nd_lt, nd_ltT, nd_eq, nd_eqT, hL.1, q2, q3, fa_or, ji_bc hkn]
        exact hs2
  · intro n j hp
    simp (disch := omega) only [Se_bestFor_l8, pl_0, pl_1, pl_2, pl_3, pl_4, pl_5, pl_6, pl_7, pl_8, pl_9, pl_10, pl_11, pl_12, pl_13, pl_14, pl_15, pl_16, pl_17, pl_18, pl_19, pl_20, pl_21, pl_30, pl_40, pl_50, pl_51, pl_60, pl_70, pl_71, pl_99, pl_100, pl_160, pl_240, pl_256, pl_300, pl_999, pl_1000, pl_1280, pl_9999, pl_10000, pu_neg, pu_nn, pu_le, pu_lt, pu_eq, pu_cl, pu_in, pu_g, ↓pu_let, ↓pu_bind, pu_m1, pu_add, pu_mul, Nat.not_lt_zero, if_false, if_true, Nat.zero_le, pu_d2, pu_d100, pu_em1, ↓reduceIte, Nat.reduceEqDiff, Nat.reduceLT, Nat.reduceLeDiff, Nat.reduceAdd, Nat.reduceMul, Nat.reduceSub, not_true_eq_false, not_false_eq_true, and_true, true_and, and_false, false_and, or_true, true_or, or_false, false_or, Nat.lt_irrefl, Nat.le_refl, Nat.add_zero, Bool.false_eq_true, ↓pu_gI, nd_le, nd_leT, nd_lt, nd_ltT, nd_eq, nd_eqT, hL.1]
    rw [(hL.2 j hp.1.1).1, hp.1.2]
end SRC
