/-! told months -/
def comY (A : is_T) (x : Int32) : Bool := decide (un x < 2147483648) && comB A (un x)
/-- from the k-th to the last on: the first that can't be, and the island then -/
def jdR (E : Nat → Nat → Int64) (s N : Nat) : Nat → is_T → Int32 × is_T
  | 0, A => (-nI 1, A)
  | k + 1, A => if comY A (eN E s (N - (k + 1))) then jdR E s N k (comT A (un (eN E s (N - (k + 1))))) else (nI (N - (k + 1)), A)
theorem jd_I (E : Nat → Nat → Int64) (s N : Nat) : ∀ k A, IslI A → IslI (jdR E s N k A).2 ∧ (jdR E s N k A).2 0 6 = A 0 6 := by
  intro k
  induction k with
  | zero => intro A hA; exact ⟨hA, rfl⟩
  | succ k ih =>
    intro A hA
    unfold jdR
    split
    · have := ih _ (com_I hA (v := un (eN E s (N - (k + 1)))))
      exact ⟨this.1, this.2.trans (com_6 _ _)⟩
    · exact ⟨hA, rfl⟩
theorem jd_t {E : Nat → Nat → Int64} {s N i : Nat} {A : is_T} (hi : i < N) (h : comY A (eN E s i) = true) : jdR E s N (N - i) A = jdR E s N (N - (i + 1)) (comT A (un (eN E s i))) := by
  rw [show N - i = (N - (i + 1)) + 1 by omega]
  show (if comY A (eN E s (N - (N - (i + 1) + 1))) then _ else _) = _
  rw [show N - (N - (i + 1) + 1) = i by omega, if_pos h]
theorem jd_f {E : Nat → Nat → Int64} {s N i : Nat} {A : is_T} (hi : i < N) (h : comY A (eN E s i) = false) : jdR E s N (N - i) A = (nI i, A) := by
  rw [show N - i = (N - (i + 1)) + 1 by omega]
  show (if comY A (eN E s (N - (N - (i + 1) + 1))) then _ else _) = _
  rw [show N - (N - (i + 1) + 1) = i by omega, if_neg (by rw [h]; decide)]
theorem un_neg {x : Int32} (h : ¬ un x < 2147483648) : x < 0 := by
  rcases rg_f (x := x) (k := 2147483646) (by omega) (by omega) with h1 | h1
  · exact h1
  · exfalso
    by_cases h2 : x < 0
    · have := nge h2 (show 2147483647 < 2147483648 by omega)
      rw [this] at h1
      exact h1
    · obtain ⟨j, hj, rfl⟩ := nI_of h2
      rw [un_nI (by omega)] at h
      omega
section JUD
variable {σ : nm_St} {T U : is_T} {E : Nat → Nat → Int64}
theorem nm_months (h : CF σ T U E) (hP : PF T U) {s n : Nat} (hs : s < 8) (hn : n ≤ U 2 s) : ∃ τ, Nm_tryMonths (54 + 2 * s) (nI n) σ = some ((jdR E s n n T).1, τ) ∧ IslU σ 16 τ (jdR E s n n T).2 := by
  have hsz := (hP.2 s hs).1.2.2
  have hI := hP.1
  obtain ⟨ρ, e1, u1⟩ := is_become (o := 16) (o1 := 2) h.1 (Or.inr (by omega))
  unfold Nm_tryMonths
  rw [e1]
  simp only [pl_0, pl_1, pl_2, pl_3, pl_4, pl_5, pl_6, pl_7, pl_8, pl_9, pl_10, pl_11, pl_12, pl_13, pl_14, pl_15, pl_16, pl_17, pl_18, pl_19, pl_20, pl_21, pl_30, pl_40, pl_50, pl_51, pl_60, pl_70, pl_71, pl_99, pl_100, pl_160, pl_240, pl_256, pl_300, pl_999, pl_1000, pl_1280, pl_9999, pl_10000, pu_bind]
  generalize hR : jdR E s n n T = R
  refine lp_Q (fun n' i (a : nm_St) => Nm_tryMonths_l13 (54 + 2 * s) _ n' (nI n) (nI i) a) n (fun i a => ∃ A, IslI A ∧ IslU σ 16 a A ∧ jdR E s n (n - i) A = R) (fun r => ∃ τ, r = some (R.1, τ) ∧ IslU σ 16 τ R.2) ?_ ?_ 400 0 ρ (by omega) ⟨T, hI, u1, hR⟩ (by omega)
  · intro n' i a hi hp ih
    obtain ⟨A, hA, hu, hr⟩ := hp
    have hca : CF a T U E := h.fr hu.2.fr16 rfl rfl
    have kN := sh_num hca hP hs (show i < U 2 s by omega)
    cases c : comY A (eN E s i) with
    | true =>
      have cc := c
      unfold comY at cc
      simp only [Bool.and_eq_true, decide_eq_true_eq] at cc
      obtain ⟨τ, e2, u2⟩ := is_comes_t hu.1 hA cc.1 cc.2
      have hs2 := ih τ ⟨_, com_I hA, hu.tr u2, by rw [← jd_t hi c]; exact hr⟩
      rw [rg_t (eN E s i)] at kN
      simp (disch := omega) only [Nm_tryMonths_l13, pl_0, pl_1, pl_2, pl_3, pl_4, pl_5, pl_6, pl_7, pl_8, pl_9, pl_10, pl_11, pl_12, pl_13, pl_14, pl_15, pl_16, pl_17, pl_18, pl_19, pl_20, pl_21, pl_30, pl_40, pl_50, pl_51, pl_60, pl_70, pl_71, pl_99, pl_100, pl_160, pl_240, pl_256, pl_300, pl_999, pl_1000, pl_1280, pl_9999, pl_10000, pu_neg, pu_nn, pu_le, pu_lt, pu_eq, pu_cl, pu_in, pu_g, ↓pu_let, ↓pu_bind, pu_m1, pu_add, pu_mul, Nat.not_lt_zero, if_false, if_true, Nat.zero_le, pu_d2, pu_d100, pu_em1, ↓reduceIte, Nat.reduceEqDiff, Nat.reduceLT, Nat.reduceLeDiff, Nat.reduceAdd, Nat.reduceMul, Nat.reduceSub, not_true_eq_false, not_false_eq_true, and_true, true_and, and_false, false_and, or_true, true_or, or_false, false_or, Nat.lt_irrefl, Nat.le_refl, Nat.add_zero, Bool.false_eq_true, ↓pu_gI, nd_le, nd_leT, nd_lt, nd_ltT, nd_eq, nd_eqT, kN, e2]
      exact hs2
    | false =>
      rw [jd_f hi c] at hr
      have kC : Is_comesTrue 16 (eN E s i) a = some (nI 0, a) := by
        by_cases z : un (eN E s i) < 2147483648
        · have : comB A (un (eN E s i)) = false := by
            unfold comY at c
            simpa [z] using c
          rw [rg_t (eN E s i)]
          exact is_comes_f hu.1 hA z this
        · exact is_comes_neg (un_neg z)
      simp (disch := omega) only [Nm_tryMonths_l13, pl_0, pl_1, pl_2, pl_3, pl_4, pl_5, pl_6, pl_7, pl_8, pl_9, pl_10, pl_11, pl_12, pl_13, pl_14, pl_15, pl_16, pl_17, pl_18, pl_19, pl_20, pl_21, pl_30, pl_40, pl_50, pl_51, pl_60, pl_70, pl_71, pl_99, pl_100, pl_160, pl_240, pl_256, pl_300, pl_999, pl_1000, pl_1280, pl_9999, pl_10000, pu_neg, pu_nn, pu_le, pu_lt, pu_eq, pu_cl, pu_in, pu_g, ↓pu_let, ↓pu_bind, pu_m1, pu_add, pu_mul, Nat.not_lt_zero, if_false, if_true, Nat.zero_le, pu_d2, pu_d100, pu_em1, ↓reduceIte, Nat.reduceEqDiff, Nat.reduceLT, Nat.reduceLeDiff, Nat.reduceAdd, Nat.reduceMul, Nat.reduceSub, not_true_eq_false, not_false_eq_true, and_true, true_and, and_false, false_and, or_true, true_or, or_false, false_or, Nat.lt_irrefl, Nat.le_refl, Nat.add_zero, Bool.false_eq_true, ↓pu_gI, nd_le, nd_leT, nd_lt, nd_ltT, nd_eq, nd_eqT, kN, kC]
      rw [← hr]
      exact ⟨a, rfl, hu⟩
  · intro n' a hp
    obtain ⟨A, hA, hu, hr⟩ := hp
    rw [Nat.sub_self] at hr
    simp (disch := omega) only [Nm_tryMonths_l13, pl_0, pl_1, pl_2, pl_3, pl_4, pl_5, pl_6, pl_7, pl_8, pl_9, pl_10, pl_11, pl_12, pl_13, pl_14, pl_15, pl_16, pl_17, pl_18, pl_19, pl_20, pl_21, pl_30, pl_40, pl_50, pl_51, pl_60, pl_70, pl_71, pl_99, pl_100, pl_160, pl_240, pl_256, pl_300, pl_999, pl_1000, pl_1280, pl_9999, pl_10000, pu_neg, pu_nn, pu_le, pu_lt, pu_eq, pu_cl, pu_in, pu_g, ↓pu_let, ↓pu_bind, pu_m1, pu_add, pu_mul, Nat.not_lt_zero, if_false, if_true, Nat.zero_le, pu_d2, pu_d100, pu_em1, ↓reduceIte, Nat.reduceEqDiff, Nat.reduceLT, Nat.reduceLeDiff, Nat.reduceAdd, Nat.reduceMul, Nat.reduceSub, not_true_eq_false, not_false_eq_true, and_true, true_and, and_false, false_and, or_true, true_or, or_false, false_or, Nat.lt_irrefl, Nat.le_refl, Nat.add_zero, Bool.false_eq_true, ↓pu_gI, nd_le, nd_leT, nd_lt, nd_ltT, nd_eq, nd_eqT]
    rw [← hr]
    exact ⟨a, rfl, hu⟩
theorem md_months (h : MF σ T U E) (hP : PF T U) {ρ : nm_St} {L : List Nat} (hf : Fr L σ ρ) (hL : L.contains 16 = false) (hm : MdR ρ T) {s n : Nat} (hs : s < 8) (hn : n ≤ U 2 s) : ∃ τ, Md_wrongIn (nI s) (nI n) ρ = some ((jdR E s n n T).1, τ) ∧ MdU ρ τ (jdR E s n n T).2 := by
  have hsz := (hP.2 s hs).1.2.2
  have hI := hP.1
  unfold Md_wrongIn
  simp only [pl_0, pl_1, pl_2, pl_3, pl_4, pl_5, pl_6, pl_7, pl_8, pl_9, pl_10, pl_11, pl_12, pl_13, pl_14, pl_15, pl_16, pl_17, pl_18, pl_19, pl_20, pl_21, pl_30, pl_40, pl_50, pl_51, pl_60, pl_70, pl_71, pl_99, pl_100, pl_160, pl_240, pl_256, pl_300, pl_999, pl_1000, pl_1280, pl_9999, pl_10000]
  generalize hR : jdR E s n n T = R
  refine lp_Q (fun n' i (a : nm_St) => Md_wrongIn_l2 _ n' (nI s) (nI n) (nI i) a) n (fun i a => ∃ A, IslI A ∧ MdU ρ a A ∧ jdR E s n (n - i) A = R) (fun r => ∃ τ, r = some (R.1, τ) ∧ MdU ρ τ R.2) ?_ ?_ 400 0 ρ (by omega) ⟨T, hI, MdU.rf hm, hR⟩ (by omega)
  · intro n' i a hi hp ih
    obtain ⟨A, hA, hu, hr⟩ := hp
    have hel : ∀ i', i' < U 2 s → Md_intAt (nI s) (nI i') a = some (eN E s i', a) := fun i' hi' => by
      have e2 : a.2 82 (160 * s + i') = E s i' := by
        rw [(hu.2 82 _ rfl).2, (hf 82 _ (by rw [show rg 82 (160 * s + i') = 16 from rfl]; exact hL)).2]
        exact h.el hs hi'
      unfold Md_intAt eN
      simp (disch := omega) only [pl_0, pl_1, pl_2, pl_3, pl_4, pl_5, pl_6, pl_7, pl_8, pl_9, pl_10, pl_11, pl_12, pl_13, pl_14, pl_15, pl_16, pl_17, pl_18, pl_19, pl_20, pl_21, pl_30, pl_40, pl_50, pl_51, pl_60, pl_70, pl_71, pl_99, pl_100, pl_160, pl_240, pl_256, pl_300, pl_999, pl_1000, pl_1280, pl_9999, pl_10000, pu_neg, pu_nn, pu_le, pu_lt, pu_eq, pu_cl, pu_in, pu_g, ↓pu_let, ↓pu_bind, pu_m1, pu_add, pu_mul, Nat.not_lt_zero, if_false, if_true, Nat.zero_le, pu_d2, pu_d100, pu_em1, ↓reduceIte, Nat.reduceEqDiff, Nat.reduceLT, Nat.reduceLeDiff, Nat.reduceAdd, Nat.reduceMul, Nat.reduceSub, not_true_eq_false, not_false_eq_true, and_true, true_and, and_false, false_and, or_true, true_or, or_false, false_or, Nat.lt_irrefl, Nat.le_refl, Nat.add_zero, Bool.false_eq_true, ↓pu_gI, nd_le, nd_leT, nd_lt, nd_ltT, nd_eq, nd_eqT, e2]
    have kN := hel i (by omega)
    cases c : comY A (eN E s i) with
    | true =>
      have cc := c
      unfold comY at cc
      simp only [Bool.and_eq_true, decide_eq_true_eq] at cc
      obtain ⟨τ, e2, u2⟩ := md_comes hu.1 hA cc.1 cc.2
      have kC := md_can hu.1 hA cc.1
      rw [if_pos cc.2] at kC
      have hs2 := ih τ ⟨_, com_I hA, hu.tr u2, by rw [← jd_t hi c]; exact hr⟩
      rw [rg_t (eN E s i)] at kN
      simp (disch := omega) only [Md_wrongIn_l2, pl_0, pl_1, pl_2, pl_3, pl_4, pl_5, pl_6, pl_7, pl_8, pl_9, pl_10, pl_11, pl_12, pl_13, pl_14, pl_15, pl_16, pl_17, pl_18, pl_19, pl_20, pl_21, pl_30, pl_40, pl_50, pl_51, pl_60, pl_70, pl_71, pl_99, pl_100, pl_160, pl_240, pl_256, pl_300, pl_999, pl_1000, pl_1280, pl_9999, pl_10000, pu_neg, pu_nn, pu_le, pu_lt, pu_eq, pu_cl, pu_in, pu_g, ↓pu_let, ↓pu_bind, pu_m1, pu_add, pu_mul, Nat.not_lt_zero, if_false, if_true, Nat.zero_le, pu_d2, pu_d100, pu_em1, ↓reduceIte, Nat.reduceEqDiff, Nat.reduceLT, Nat.reduceLeDiff, Nat.reduceAdd, Nat.reduceMul, Nat.reduceSub, not_true_eq_false, not_false_eq_true, and_true, true_and, and_false, false_and, or_true, true_or, or_false, false_or, Nat.lt_irrefl, Nat.le_refl, Nat.add_zero, Bool.false_eq_true, ↓pu_gI, nd_le, nd_leT, nd_lt, nd_ltT, nd_eq, nd_eqT, kN, kC, e2]
      exact hs2
    | false =>
      rw [jd_f hi c] at hr
      have kC : Md_can (eN E s i) a = some (nI 0, a) := by
        by_cases z : un (eN E s i) < 2147483648
        · have : comB A (un (eN E s i)) = false := by
            unfold comY at c
            simpa [z] using c
          have k := md_can hu.1 hA z
          rw [this] at k
          rw [rg_t (eN E s i)]
          exact k
        · exact md_can_neg (un_neg z)
      simp (disch := omega) only [Md_wrongIn_l2, pl_0, pl_1, pl_2, pl_3, pl_4, pl_5, pl_6, pl_7, pl_8, pl_9, pl_10, pl_11, pl_12, pl_13, pl_14, pl_15, pl_16, pl_17, pl_18, pl_19, pl_20, pl_21, pl_30, pl_40, pl_50, pl_51, pl_60, pl_70, pl_71, pl_99, pl_100, pl_160, pl_240, pl_256, pl_300, pl_999, pl_1000, pl_1280, pl_9999, pl_10000, pu_neg, pu_nn, pu_le, pu_lt, pu_eq, pu_cl, pu_in, pu_g, ↓pu_let, ↓pu_bind, pu_m1, pu_add, pu_mul, Nat.not_lt_zero, if_false, if_true, Nat.zero_le, pu_d2, pu_d100, pu_em1, ↓reduceIte, Nat.reduceEqDiff, Nat.reduceLT, Nat.reduceLeDiff, Nat.reduceAdd, Nat.reduceMul, Nat.reduceSub, not_true_eq_false, not_false_eq_true, and_true, true_and, and_false, false_and, or_true, true_or, or_false, false_or, Nat.lt_irrefl, Nat.le_refl, Nat.add_zero, Bool.false_eq_true, ↓pu_gI, nd_le, nd_leT, nd_lt, nd_ltT, nd_eq, nd_eqT, kN, kC]
      rw [← hr]
      exact ⟨a, rfl, hu⟩
  · intro n' a hp
    obtain ⟨A, hA, hu, hr⟩ := hp
    rw [Nat.sub_self] at hr
    simp (disch := omega) only [Md_wrongIn_l2, pl_0, pl_1, pl_2, pl_3, pl_4, pl_5, pl_6, pl_7, pl_8, pl_9, pl_10, pl_11, pl_12, pl_13, pl_14, pl_15, pl_16, pl_17, pl_18, pl_19, pl_20, pl_21, pl_30, pl_40, pl_50, pl_51, pl_60, pl_70, pl_71, pl_99, pl_100, pl_160, pl_240, pl_256, pl_300, pl_999, pl_1000, pl_1280, pl_9999, pl_10000, pu_neg, pu_nn, pu_le, pu_lt, pu_eq, pu_cl, pu_in, pu_g, ↓pu_let, ↓pu_bind, pu_m1, pu_add, pu_mul, Nat.not_lt_zero, if_false, if_true, Nat.zero_le, pu_d2, pu_d100, pu_em1, ↓reduceIte, Nat.reduceEqDiff, Nat.reduceLT, Nat.reduceLeDiff, Nat.reduceAdd, Nat.reduceMul, Nat.reduceSub, not_true_eq_false, not_false_eq_true, and_true, true_and, and_false, false_and, or_true, true_or, or_false, false_or, Nat.lt_irrefl, Nat.le_refl, Nat.add_zero, Bool.false_eq_true, ↓pu_gI, nd_le, nd_leT, nd_lt, nd_ltT, nd_eq, nd_eqT]
    rw [← hr]
    exact ⟨a, rfl, hu⟩
theorem jd_m1 {E : Nat → Nat → Int64} {s N : Nat} (hN : N ≤ 160) : ∀ k A, k ≤ N → (jdR E s N k A).1 = -nI 1 ∨ ∃ j, j < 160 ∧ (jdR E s N k A).1 = nI j := by
  intro k
  induction k with
  | zero => intro A _; exact Or.inl rfl
  | succ k ih =>
    intro A hk
    unfold jdR
    split
    · exact ih _ (by omega)
    · exact Or.inr ⟨N - (k + 1), by omega, rfl⟩
/-- the model tries and takes back -/
theorem md_try (h : MF σ T U E) (hP : PF T U) {s n : Nat} (hs : s < 8) (hn : n ≤ U 2 s) : ∃ ρ τ, Md_all 89 (nI 0) σ = some ((), ρ) ∧ Md_wrongIn (nI s) (nI n) ρ = some ((jdR E s n n T).1, τ) ∧ MdR τ (jdR E s n n T).2 ∧ Fr [10, 11] σ τ ∧ ∃ υ, Md_all 89 (nI 1) τ = some ((), υ) ∧ MdR υ T ∧ Fr [10, 11] σ υ := by
  obtain ⟨ρ, e1, k1, f1, g1⟩ := md_all_st (c := 89) h.1 (by omega)
  have F1 : Fr [10] σ ρ := fun k j hk => by
    refine ⟨f1 k j ?_, by rw [g1]⟩
    rintro rfl
    exact absurd hk (by rw [show rg 89 j = 10 from rfl]; decide)
  obtain ⟨τ, e2, u2⟩ := md_months h hP F1 rfl (h.1.fr F1 rfl) hs hn
  have k2 : KeR τ 89 T := k1.frc u2.2 (q := 10) (fun _ => rfl) rfl
  have F2 : Fr [10, 11] σ τ := (F1.mono rfl).tr (u2.2.mono rfl)
  obtain ⟨υ, e3, u3⟩ := md_all_ld k2 (by omega)
  exact ⟨ρ, τ, e1, e2, u2.1, F2, υ, e3, u3.1, F2.tr (u3.2.mono rfl)⟩
theorem nm_ct0 (h : CF σ T U E) (hP : PF T U) {s n : Nat} (hs : s < 8) (hn : n ≤ 160) (c : cfN U s n = 0) : Nm_checkTold (nI s) (nI n) σ = some (if n ≤ 40 then nI 0 else -nI 6, σ) := by
  have k := nm_cf h hP hs (show n < 2147483648 by omega)
  rw [if_pos c] at k
  unfold Nm_checkTold
  refine (bn0 k).trans ?_
  simp (disch := omega) only [pl_0, pl_1, pl_2, pl_3, pl_4, pl_5, pl_6, pl_7, pl_8, pl_9, pl_10, pl_11, pl_12, pl_13, pl_14, pl_15, pl_16, pl_17, pl_18, pl_19, pl_20, pl_21, pl_30, pl_40, pl_50, pl_51, pl_60, pl_70, pl_71, pl_99, pl_100, pl_160, pl_240, pl_256, pl_300, pl_999, pl_1000, pl_1280, pl_9999, pl_10000, pu_neg, pu_nn, pu_le, pu_lt, pu_eq, pu_cl, pu_in, pu_g, ↓pu_let, ↓pu_bind, pu_m1, pu_add, pu_mul, Nat.not_lt_zero, if_false, if_true, Nat.zero_le, pu_d2, pu_d100, pu_em1, ↓reduceIte, Nat.reduceEqDiff, Nat.reduceLT, Nat.reduceLeDiff, Nat.reduceAdd, Nat.reduceMul, Nat.reduceSub, not_true_eq_false, not_false_eq_true, and_true, true_and, and_false, false_and, or_true, true_or, or_false, false_or, Nat.lt_irrefl, Nat.le_refl, Nat.add_zero, Bool.false_eq_true, ↓pu_gI, nd_le, nd_leT, nd_lt, nd_ltT, nd_eq, nd_eqT]
  by_cases z : n ≤ 40 <;> simp [z]
theorem nm_ctb {p1 p2 : Int32} {b : Nat} (k : Nm_checkFirst p1 p2 σ = some (-nI b, σ)) (h1 : 1 ≤ b) (h7 : b ≤ 7) : Nm_checkTold p1 p2 σ = some (-nI b, σ) := by
  unfold Nm_checkTold
  exact (bnr k h1 (by omega)).trans rfl
theorem op_judge (hP : PF T U) (p1 p2 : Int32) : OkG T U E (Nm_judge p1 p2) (Md_judge p1 p2) := by
  have hI := hP.1
  have ref : ∀ b, 1 ≤ b → b ≤ 7 → (∀ σ, CF σ T U E → Nm_checkTold p1 p2 σ = some (-nI b, σ)) → (∀ σ, MF σ T U E → Md_barsOf p1 p2 σ = some (-nI b, σ)) → OkG T U E (Nm_judge p1 p2) (Md_judge p1 p2) := fun b h1 h7 hA hC => by
    refine g_no hI (b := -nI b - nI 10) b h1 h7 (fun σ h => ?_) (fun σ h => ?_)
    · unfold Nm_judge
      refine (bnr (hA σ h) h1 (by omega)).trans ?_
      exact bind_of (nm_refF h1 h7 σ) rfl
    · unfold Md_judge
      refine (bnr (hC σ h) h1 (by omega)).trans ?_
      exact bind_of (md_noT h1 h7 σ) rfl
  refine pre_cases (E := E) hP p1 p2 _ (fun b h1 h5 hA hB hC => ref b h1 (by omega) (fun σ h => nm_ctb (hA σ h) h1 (by omega)) hC) (fun s n hs hn e1 e2 e0 hle c => ?_)
  subst e1 e2
  by_cases z : n ≤ 40
  · refine ⟨0, (jdR E s n n T).1, T, by omega, hI, Nat.le_refl _, fun σ h => ?_, fun σ h => ?_⟩
    · obtain ⟨τ, e, u⟩ := nm_months h hP hs hle
      have k := nm_ct0 h hP hs hn c
      rw [if_pos z] at k
      refine ⟨τ, ?_, h.1.fr2 u.2.fr16 rfl, u.2.fr16.mono rfl⟩
      rw [if_pos rfl]
      unfold Nm_judge
      refine (bn0 k).trans ((gin hs (by omega)).trans ?_)
      rw [sf_n (by omega), e]
      rfl
    · obtain ⟨ρ, τ, e1, e2, m2, f2, υ, e3, m3, f3⟩ := md_try h hP hs hle
      have k := md_bars h hP hs (show n < 2147483648 by omega)
      rw [if_pos c, if_pos z] at k
      refine ⟨υ, ?_, m3, f3⟩
      rw [if_pos rfl]
      unfold Md_judge
      refine (bn0 k).trans ?_
      simp only [pl_0, pl_1, pl_2, pl_3, pl_4, pl_5, pl_6, pl_7, pl_8, pl_9, pl_10, pl_11, pl_12, pl_13, pl_14, pl_15, pl_16, pl_17, pl_18, pl_19, pl_20, pl_21, pl_30, pl_40, pl_50, pl_51, pl_60, pl_70, pl_71, pl_99, pl_100, pl_160, pl_240, pl_256, pl_300, pl_999, pl_1000, pl_1280, pl_9999, pl_10000, e1, e2, e3, pu_bind]
  · exact ref 6 (by omega) (by omega) (fun σ h => by rw [nm_ct0 h hP hs hn c, if_neg z]) (fun σ h => by rw [md_bars h hP hs (by omega), if_pos c, if_neg z])
theorem op_done (hP : PF T U) (p1 p2 : Int32) : OkG T U E (Nm_done p1 p2) (Md_done p1 p2) := by
  have hI := hP.1
  have j29 : ∀ (σ : nm_St) (b : Nat), 1 ≤ b → b ≤ 7 → Nm_done_j29 (-nI b) σ = some (-nI b, rfC σ b) := fun σ b h1 h7 => by
    unfold Nm_done_j29
    simp (disch := omega) only [pl_0, pl_1, pl_2, pl_3, pl_4, pl_5, pl_6, pl_7, pl_8, pl_9, pl_10, pl_11, pl_12, pl_13, pl_14, pl_15, pl_16, pl_17, pl_18, pl_19, pl_20, pl_21, pl_30, pl_40, pl_50, pl_51, pl_60, pl_70, pl_71, pl_99, pl_100, pl_160, pl_240, pl_256, pl_300, pl_999, pl_1000, pl_1280, pl_9999, pl_10000, pu_neg, pu_nn, pu_le, pu_lt, pu_eq, pu_cl, pu_in, pu_g, ↓pu_let, ↓pu_bind, pu_m1, pu_add, pu_mul, Nat.not_lt_zero, if_false, if_true, Nat.zero_le, pu_d2, pu_d100, pu_em1, ↓reduceIte, Nat.reduceEqDiff, Nat.reduceLT, Nat.reduceLeDiff, Nat.reduceAdd, Nat.reduceMul, Nat.reduceSub, not_true_eq_false, not_false_eq_true, and_true, true_and, and_false, false_and, or_true, true_or, or_false, false_or, Nat.lt_irrefl, Nat.le_refl, Nat.add_zero, Bool.false_eq_true, ↓pu_gI, nd_le, nd_leT, nd_lt, nd_ltT, nd_eq, nd_eqT, pu_ng, nm_ref]
  have ref : ∀ b, 1 ≤ b → b ≤ 7 → (∀ σ, CF σ T U E → Nm_checkTold p1 p2 σ = some (-nI b, σ)) → (∀ σ, MF σ T U E → Md_barsOf p1 p2 σ = some (-nI b, σ)) → OkG T U E (Nm_done p1 p2) (Md_done p1 p2) := fun b h1 h7 hA hC => by
    refine g_no hI (b := -nI b) b h1 h7 (fun σ h => ?_) (fun σ h => ?_)
    · unfold Nm_done
      exact (bnr (hA σ h) h1 (by omega)).trans (j29 σ b h1 h7)
    · unfold Md_done
      refine (bnr (hC σ h) h1 (by omega)).trans ?_
      exact bind_of (md_no h1 h7 σ) rfl
  refine pre_cases (E := E) hP p1 p2 _ (fun b h1 h5 hA hB hC => ref b h1 (by omega) (fun σ h => nm_ctb (hA σ h) h1 (by omega)) hC) (fun s n hs hn e1 e2 e0 hle c => ?_)
  subst e1 e2
  by_cases z : n ≤ 40
  · obtain ⟨jI, j6⟩ := jd_I E s n n T hI
    by_cases w : (jdR E s n n T).1 = -nI 1
    · refine ⟨0, nI ((jdR E s n n T).2 0 10), (jdR E s n n T).2, by omega, jI, by rw [j6]; omega, fun σ h => ?_, fun σ h => ?_⟩
      · obtain ⟨τ, e, u⟩ := nm_months h hP hs hle
        have k := nm_ct0 h hP hs hn c
        rw [if_pos z] at k
        obtain ⟨υ, e2, u2⟩ := is_become (o := 2) (o1 := 16) u.1 (Or.inl (by omega))
        refine ⟨υ, ?_, u2.1, (u.2.fr16.mono rfl).tr (u2.2.fr2.mono rfl)⟩
        rw [if_pos rfl]
        unfold Nm_done
        refine (bn0 k).trans ((gin hs (by omega)).trans ?_)
        rw [sf_n (by omega), e]
        simp (disch := omega) only [Nm_done_j29, pl_0, pl_1, pl_2, pl_3, pl_4, pl_5, pl_6, pl_7, pl_8, pl_9, pl_10, pl_11, pl_12, pl_13, pl_14, pl_15, pl_16, pl_17, pl_18, pl_19, pl_20, pl_21, pl_30, pl_40, pl_50, pl_51, pl_60, pl_70, pl_71, pl_99, pl_100, pl_160, pl_240, pl_256, pl_300, pl_999, pl_1000, pl_1280, pl_9999, pl_10000, pu_neg, pu_nn, pu_le, pu_lt, pu_eq, pu_cl, pu_in, pu_g, ↓pu_let, ↓pu_bind, pu_m1, pu_add, pu_mul, Nat.not_lt_zero, if_false, if_true, Nat.zero_le, pu_d2, pu_d100, pu_em1, ↓reduceIte, Nat.reduceEqDiff, Nat.reduceLT, Nat.reduceLeDiff, Nat.reduceAdd, Nat.reduceMul, Nat.reduceSub, not_true_eq_false, not_false_eq_true, and_true, true_and, and_false, false_and, or_true, true_or, or_false, false_or, Nat.lt_irrefl, Nat.le_refl, Nat.add_zero, Bool.false_eq_true, ↓pu_gI, nd_le, nd_leT, nd_lt, nd_ltT, nd_eq, nd_eqT, w, e2, u2.1.mo]
      · obtain ⟨ρ, τ, e1, e2, m2, f2, υ, e3, m3, f3⟩ := md_try h hP hs hle
        have k := md_bars h hP hs (show n < 2147483648 by omega)
        rw [if_pos c, if_pos z] at k
        refine ⟨τ, ?_, m2, f2⟩
        rw [if_pos rfl]
        unfold Md_done
        refine (bn0 k).trans ?_
        simp only [pl_0, pl_1, pl_2, pl_3, pl_4, pl_5, pl_6, pl_7, pl_8, pl_9, pl_10, pl_11, pl_12, pl_13, pl_14, pl_15, pl_16, pl_17, pl_18, pl_19, pl_20, pl_21, pl_30, pl_40, pl_50, pl_51, pl_60, pl_70, pl_71, pl_99, pl_100, pl_160, pl_240, pl_256, pl_300, pl_999, pl_1000, pl_1280, pl_9999, pl_10000, e1, e2, pu_bind, w, ↓reduceIte, m2.mo]
    · have w0 : ∃ j, j < 160 ∧ (jdR E s n n T).1 = nI j := (jd_m1 (by omega) n T (Nat.le_refl _)).resolve_left w
      obtain ⟨j, hj, w1⟩ := w0
      refine ⟨6, -nI 6, T, by omega, hI, Nat.le_refl _, fun σ h => ?_, fun σ h => ?_⟩
      · obtain ⟨τ, e, u⟩ := nm_months h hP hs hle
        have k := nm_ct0 h hP hs hn c
        rw [if_pos z] at k
        refine ⟨τ, ?_, h.1.fr2 u.2.fr16 rfl, u.2.fr16.mono rfl⟩
        rw [if_neg (by omega)]
        unfold Nm_done
        refine (bn0 k).trans ((gin hs (by omega)).trans ?_)
        rw [sf_n (by omega), e]
        simp (disch := omega) only [pl_0, pl_1, pl_2, pl_3, pl_4, pl_5, pl_6, pl_7, pl_8, pl_9, pl_10, pl_11, pl_12, pl_13, pl_14, pl_15, pl_16, pl_17, pl_18, pl_19, pl_20, pl_21, pl_30, pl_40, pl_50, pl_51, pl_60, pl_70, pl_71, pl_99, pl_100, pl_160, pl_240, pl_256, pl_300, pl_999, pl_1000, pl_1280, pl_9999, pl_10000, pu_neg, pu_nn, pu_le, pu_lt, pu_eq, pu_cl, pu_in, pu_g, ↓pu_let, ↓pu_bind, pu_m1, pu_add, pu_mul, Nat.not_lt_zero, if_false, if_true, Nat.zero_le, pu_d2, pu_d100, pu_em1, ↓reduceIte, Nat.reduceEqDiff, Nat.reduceLT, Nat.reduceLeDiff, Nat.reduceAdd, Nat.reduceMul, Nat.reduceSub, not_true_eq_false, not_false_eq_true, and_true, true_and, and_false, false_and, or_true, true_or, or_false, false_or, Nat.lt_irrefl, Nat.le_refl, Nat.add_zero, Bool.false_eq_true, ↓pu_gI, nd_le, nd_leT, nd_lt, nd_ltT, nd_eq, nd_eqT, w1, j29]
      · obtain ⟨ρ, τ, e1, e2, m2, f2, υ, e3, m3, f3⟩ := md_try h hP hs hle
        have k := md_bars h hP hs (show n < 2147483648 by omega)
        rw [if_pos c, if_pos z] at k
        refine ⟨υ, ?_, m3, f3⟩
        rw [if_neg (by omega)]
        unfold Md_done
        refine (bn0 k).trans ?_
        simp (disch := omega) only [pl_0, pl_1, pl_2, pl_3, pl_4, pl_5, pl_6, pl_7, pl_8, pl_9, pl_10, pl_11, pl_12, pl_13, pl_14, pl_15, pl_16, pl_17, pl_18, pl_19, pl_20, pl_21, pl_30, pl_40, pl_50, pl_51, pl_60, pl_70, pl_71, pl_99, pl_100, pl_160, pl_240, pl_256, pl_300, pl_999, pl_1000, pl_1280, pl_9999, pl_10000, pu_neg, pu_nn, pu_le, pu_lt, pu_eq, pu_cl, pu_in, pu_g, ↓pu_let, ↓pu_bind, pu_m1, pu_add, pu_mul, Nat.not_lt_zero, if_false, if_true, Nat.zero_le, pu_d2, pu_d100, pu_em1, ↓reduceIte, Nat.reduceEqDiff, Nat.reduceLT, Nat.reduceLeDiff, Nat.reduceAdd, Nat.reduceMul, Nat.reduceSub, not_true_eq_false, not_false_eq_true, and_true, true_and, and_false, false_and, or_true, true_or, or_false, false_or, Nat.lt_irrefl, Nat.le_refl, Nat.add_zero, Bool.false_eq_true, ↓pu_gI, nd_le, nd_leT, nd_lt, nd_ltT, nd_eq, nd_eqT, e1, e2, e3, w1, md_no]
  · exact ref 6 (by omega) (by omega) (fun σ h => by rw [nm_ct0 h hP hs hn c, if_neg z]) (fun σ h => by rw [md_bars h hP hs (by omega), if_pos c, if_neg z])
/-- what is told behind the months -/
def behA (A : is_T) (w : Nat) : Int32 := if w = 0 then nI (madeN A (atB A 1)) else if w = 1 then nI (A 0 9) else nI (A 0 8)
theorem op_behind (hP : PF T U) (p1 p2 p3 : Int32) : OkG T U E (Nm_behind p1 p2 p3) (Md_behind p1 p2 p3) := by
  have hI := hP.1
  have j57 : ∀ (σ : nm_St) (b : Nat) (x : Int32), 1 ≤ b → b ≤ 7 → Nm_behind_j57 x (-nI b) σ = some (-nI b, rfC σ b) := fun σ b x h1 h7 => by
    unfold Nm_behind_j57
    simp (disch := omega) only [pl_0, pl_1, pl_2, pl_3, pl_4, pl_5, pl_6, pl_7, pl_8, pl_9, pl_10, pl_11, pl_12, pl_13, pl_14, pl_15, pl_16, pl_17, pl_18, pl_19, pl_20, pl_21, pl_30, pl_40, pl_50, pl_51, pl_60, pl_70, pl_71, pl_99, pl_100, pl_160, pl_240, pl_256, pl_300, pl_999, pl_1000, pl_1280, pl_9999, pl_10000, pu_neg, pu_nn, pu_le, pu_lt, pu_eq, pu_cl, pu_in, pu_g, ↓pu_let, ↓pu_bind, pu_m1, pu_add, pu_mul, Nat.not_lt_zero, if_false, if_true, Nat.zero_le, pu_d2, pu_d100, pu_em1, ↓reduceIte, Nat.reduceEqDiff, Nat.reduceLT, Nat.reduceLeDiff, Nat.reduceAdd, Nat.reduceMul, Nat.reduceSub, not_true_eq_false, not_false_eq_true, and_true, true_and, and_false, false_and, or_true, true_or, or_false, false_or, Nat.lt_irrefl, Nat.le_refl, Nat.add_zero, Bool.false_eq_true, ↓pu_gI, nd_le, nd_leT, nd_lt, nd_ltT, nd_eq, nd_eqT, pu_ng, nm_ref]
  have j33 : ∀ (σ : nm_St) (b : Nat) (x y w : Int32), 1 ≤ b → b ≤ 7 → Nm_behind_j33 x y w (-nI b) σ = some (-nI b, rfC σ b) := fun σ b x y w h1 h7 => by
    unfold Nm_behind_j33
    simp (disch := omega) only [pl_0, pl_1, pl_2, pl_3, pl_4, pl_5, pl_6, pl_7, pl_8, pl_9, pl_10, pl_11, pl_12, pl_13, pl_14, pl_15, pl_16, pl_17, pl_18, pl_19, pl_20, pl_21, pl_30, pl_40, pl_50, pl_51, pl_60, pl_70, pl_71, pl_99, pl_100, pl_160, pl_240, pl_256, pl_300, pl_999, pl_1000, pl_1280, pl_9999, pl_10000, pu_neg, pu_nn, pu_le, pu_lt, pu_eq, pu_cl, pu_in, pu_g, ↓pu_let, ↓pu_bind, pu_m1, pu_add, pu_mul, Nat.not_lt_zero, if_false, if_true, Nat.zero_le, pu_d2, pu_d100, pu_em1, ↓reduceIte, Nat.reduceEqDiff, Nat.reduceLT, Nat.reduceLeDiff, Nat.reduceAdd, Nat.reduceMul, Nat.reduceSub, not_true_eq_false, not_false_eq_true, and_true, true_and, and_false, false_and, or_true, true_or, or_false, false_or, Nat.lt_irrefl, Nat.le_refl, Nat.add_zero, Bool.false_eq_true, ↓pu_gI, nd_le, nd_leT, nd_lt, nd_ltT, nd_eq, nd_eqT, pu_ng, j57]
  have m59 : ∀ (σ : nm_St) (b : Nat) (x y w : Int32), 1 ≤ b → b ≤ 7 → Md_behind_j59 x y w (-nI b) σ = some (-nI b, rfM σ b) := fun σ b x y w h1 h7 => by
    unfold Md_behind_j59
    simp (disch := omega) only [pl_0, pl_1, pl_2, pl_3, pl_4, pl_5, pl_6, pl_7, pl_8, pl_9, pl_10, pl_11, pl_12, pl_13, pl_14, pl_15, pl_16, pl_17, pl_18, pl_19, pl_20, pl_21, pl_30, pl_40, pl_50, pl_51, pl_60, pl_70, pl_71, pl_99, pl_100, pl_160, pl_240, pl_256, pl_300, pl_999, pl_1000, pl_1280, pl_9999, pl_10000, pu_neg, pu_nn, pu_le, pu_lt, pu_eq, pu_cl, pu_in, pu_g, ↓pu_let, ↓pu_bind, pu_m1, pu_add, pu_mul, Nat.not_lt_zero, if_false, if_true, Nat.zero_le, pu_d2, pu_d100, pu_em1, ↓reduceIte, Nat.reduceEqDiff, Nat.reduceLT, Nat.reduceLeDiff, Nat.reduceAdd, Nat.reduceMul, Nat.reduceSub, not_true_eq_false, not_false_eq_true, and_true, true_and, and_false, false_and, or_true, true_or, or_false, false_or, Nat.lt_irrefl, Nat.le_refl, Nat.add_zero, Bool.false_eq_true, ↓pu_gI, nd_le, nd_leT, nd_lt, nd_ltT, nd_eq, nd_eqT, pu_ng, md_no]
  have n56 : ∀ b : Nat, b ≤ 7 → (-nI b = -6) = (b = 6) := by decide +kernel
  rcases pu_ix p1 8 (by omega) with h1 | h1 | ⟨s, hs, rfl⟩
  · refine g_no hI (b := -nI 1) 1 (by omega) (by omega) (fun σ h => ?_) (fun σ h => ?_)
    · unfold Nm_behind
      refine (bnr (n := 1) (nm_ctb (nm_cf_bad (Or.inl h1)) (by omega) (by omega)) (by omega) (by omega)).trans ?_
      rw [if_neg (by rw [show (-nI 1 = -6) = (1 = 6) from n56 1 (by omega)]; omega)]
      exact j33 σ 1 _ _ _ (by omega) (by omega)
    · unfold Md_behind
      exact (bnr (n := 1) (md_ck_lo h1) (by omega) (by omega)).trans (m59 σ 1 _ _ _ (by omega) (by omega))
  · refine g_no hI (b := -nI 1) 1 (by omega) (by omega) (fun σ h => ?_) (fun σ h => ?_)
    · unfold Nm_behind
      refine (bnr (n := 1) (nm_ctb (nm_cf_bad (Or.inr h1)) (by omega) (by omega)) (by omega) (by omega)).trans ?_
      rw [if_neg (by rw [show (-nI 1 = -6) = (1 = 6) from n56 1 (by omega)]; omega)]
      exact j33 σ 1 _ _ _ (by omega) (by omega)
    · unfold Md_behind
      exact (bnr (n := 1) (md_ck_hi h1) (by omega) (by omega)).trans (m59 σ 1 _ _ _ (by omega) (by omega))
  have hl := ck_le U s
  by_cases ck : ¬ ckN U s = 0
  · refine g_no hI (b := -nI (ckN U s)) (ckN U s) (by omega) (by omega) (fun σ h => ?_) (fun σ h => ?_)
    · have kf : Nm_checkFirst (nI s) p2 σ = some (-nI (ckN U s), σ) := by
        by_cases h2 : p2 < 0
        · rw [nm_cf_neg h hP hs h2, if_neg ck]
        · obtain ⟨n, hn, rfl⟩ := nI_of h2
          have e : cfN U s n = ckN U s := if_pos ck
          rw [nm_cf h hP hs hn, e, if_neg ck]
      unfold Nm_behind
      refine (bnr (nm_ctb kf (by omega) (by omega)) (by omega) (by omega)).trans ?_
      rw [if_neg (by rw [n56 _ (by omega)]; omega)]
      exact j33 σ _ _ _ _ (by omega) (by omega)
    · have k := md_ck h hP hs
      rw [if_neg ck] at k
      unfold Md_behind
      exact (bnr k (by omega) (by omega)).trans (m59 σ _ _ _ _ (by omega) (by omega))
  replace ck := Decidable.not_not.mp ck
  have km : ∀ σ, MF σ T U E → Md_wanted (nI s) σ = some (nI 0, σ) := fun σ h => by rw [md_ck h hP hs, if_pos ck]
  have e0 : U 0 s = 1 := by
    have := (hP.2 s hs).1.1
    unfold ckN at ck
    by_cases a : U 0 s = 2
    · rw [if_pos a] at ck; omega
    · rw [if_neg a] at ck
      by_cases b : U 0 s = 0
      · rw [if_pos b] at ck; omega
      · omega
  have hsz := (hP.2 s hs).1.2.2
  by_cases h2 : p2 < 0
  · refine g_no hI (b := -nI 4) 4 (by omega) (by omega) (fun σ h => ?_) (fun σ h => ?_)
    · have kf : Nm_checkFirst (nI s) p2 σ = some (-nI 4, σ) := by rw [nm_cf_neg h hP hs h2, if_pos ck]
      unfold Nm_behind
      refine (bnr (n := 4) (nm_ctb (b := 4) kf (by omega) (by omega)) (by omega) (by omega)).trans ?_
      rw [if_neg (by rw [show (-nI 4 = -6) = (4 = 6) from n56 4 (by omega)]; omega)]
      exact j33 σ 4 _ _ _ (by omega) (by omega)
    · unfold Md_behind
      refine (bn0 (km σ h)).trans ?_
      have g := nge h2 (show 0 < 2147483648 by omega)
      rw [nI_0] at g
      rw [if_neg (show ¬ 0 ≤ p2 by rw [g]; exact id)]
      exact m59 σ 4 _ _ _ (by omega) (by omega)
  obtain ⟨n, hn, rfl⟩ := nI_of h2
  clear h2
  have cfe : cfN U s n = if U 2 s < n then 5 else 0 := if_neg (by omega)
  by_cases hz : U 2 s < n
  · refine g_no hI (b := -nI 5) 5 (by omega) (by omega) (fun σ h => ?_) (fun σ h => ?_)
    · have kf : Nm_checkFirst (nI s) (nI n) σ = some (-nI 5, σ) := by rw [nm_cf h hP hs hn, cfe, if_pos hz]; rfl
      unfold Nm_behind
      refine (bnr (n := 5) (nm_ctb (b := 5) kf (by omega) (by omega)) (by omega) (by omega)).trans ?_
      rw [if_neg (by rw [show (-nI 5 = -6) = (5 = 6) from n56 5 (by omega)]; omega)]
      exact j33 σ 5 _ _ _ (by omega) (by omega)
    · unfold Md_behind
      refine (bn0 (km σ h)).trans ?_
      rw [if_pos (nI_pos' (by omega))]
      refine (gin hs (by omega)).trans ?_
      rw [pu_cl (by omega), h.size hs e0, if_pos (nI_lt hz (by omega))]
      exact m59 σ 5 (nI s) (nI n) p3 (by omega) (by omega)
  rw [if_neg hz] at cfe
  have hle : n ≤ U 2 s := by omega
  have kb : ∀ σ, MF σ T U E → Md_behind (nI s) (nI n) p3 σ = if p3 < 0 then Md_behind_j59 (nI s) (nI n) p3 (-5) σ else if p3 ≤ 2 then (if n ≤ 40 then Md_behind_j59 (nI s) (nI n) p3 0 σ else Md_behind_j59 (nI s) (nI n) p3 (-6) σ) else Md_behind_j59 (nI s) (nI n) p3 (-5) σ := fun σ h => by
    unfold Md_behind
    refine (bn0 (km σ h)).trans ?_
    rw [if_pos (nI_pos' (by omega))]
    refine (gin hs (by omega)).trans ?_
    rw [pu_cl (by omega), h.size hs e0, if_neg (nI_nlt hle (by omega))]
    by_cases a : n ≤ 40
    · rw [if_pos (show nI n ≤ 40 from nI_le (b := 40) a (by omega)), if_pos a]
      rfl
    · rw [if_neg (show ¬ nI n ≤ 40 from nI_ge (a := 40) (by omega) (by omega)), if_neg a]
      rfl
  have kc : ∀ σ, CF σ T U E → ∀ (w : Nat), Nm_isWithin p3 0 2 σ = some (nI w, σ) → w ≤ 1 → Nm_behind (nI s) (nI n) p3 σ = if w = 0 then Nm_behind_j33 (nI s) (nI n) p3 (-5) σ else Nm_behind_j33 (nI s) (nI n) p3 (if n ≤ 40 then nI 0 else -nI 6) σ := fun σ h w hw hw1 => by
    have k := nm_ct0 h hP hs (by omega) cfe
    have hj : ∀ x, Nm_behind_j20 (nI s) (nI n) p3 x σ = if w = 0 then Nm_behind_j33 (nI s) (nI n) p3 (-5) σ else Nm_behind_j33 (nI s) (nI n) p3 x σ := fun x => by
      unfold Nm_behind_j20
      by_cases z : w = 0
      · subst z
        rw [if_pos rfl]
        exact bn0 hw
      · have : w = 1 := by omega
        subst this
        rw [if_neg z]
        exact bn1 hw
    unfold Nm_behind
    by_cases a : n ≤ 40
    · rw [if_pos a] at k ⊢
      exact (bn0 k).trans (hj _)
    · rw [if_neg a] at k ⊢
      refine (bnr (n := 6) k (by omega) (by omega)).trans ?_
      exact (if_pos rfl).trans (hj _)
  have five : (p3 < 0 ∨ nI 3 ≤ p3) → OkG T U E (Nm_behind (nI s) (nI n) p3) (Md_behind (nI s) (nI n) p3) := fun hb => by
    refine g_no hI (b := -nI 5) 5 (by omega) (by omega) (fun σ h => ?_) (fun σ h => ?_)
    · have kw : Nm_isWithin p3 0 2 σ = some (nI 0, σ) := by
        rcases hb with k | k
        · simp (disch := omega) only [Nm_isWithin, pl_0, pl_1, pl_2, pl_3, pl_4, pl_5, pl_6, pl_7, pl_8, pl_9, pl_10, pl_11, pl_12, pl_13, pl_14, pl_15, pl_16, pl_17, pl_18, pl_19, pl_20, pl_21, pl_30, pl_40, pl_50, pl_51, pl_60, pl_70, pl_71, pl_99, pl_100, pl_160, pl_240, pl_256, pl_300, pl_999, pl_1000, pl_1280, pl_9999, pl_10000, pu_neg, pu_nn, pu_le, pu_lt, pu_eq, pu_cl, pu_in, pu_g, ↓pu_let, ↓pu_bind, pu_m1, pu_add, pu_mul, Nat.not_lt_zero, if_false, if_true, Nat.zero_le, pu_d2, pu_d100, pu_em1, ↓reduceIte, Nat.reduceEqDiff, Nat.reduceLT, Nat.reduceLeDiff, Nat.reduceAdd, Nat.reduceMul, Nat.reduceSub, not_true_eq_false, not_false_eq_true, and_true, true_and, and_false, false_and, or_true, true_or, or_false, false_or, Nat.lt_irrefl, Nat.le_refl, Nat.add_zero, Bool.false_eq_true, ↓pu_gI, nd_le, nd_leT, nd_lt, nd_ltT, nd_eq, nd_eqT, ngl k, nge k, ngle k, nggt k, ngne k]
        · simp (disch := omega) only [Nm_isWithin, pl_0, pl_1, pl_2, pl_3, pl_4, pl_5, pl_6, pl_7, pl_8, pl_9, pl_10, pl_11, pl_12, pl_13, pl_14, pl_15, pl_16, pl_17, pl_18, pl_19, pl_20, pl_21, pl_30, pl_40, pl_50, pl_51, pl_60, pl_70, pl_71, pl_99, pl_100, pl_160, pl_240, pl_256, pl_300, pl_999, pl_1000, pl_1280, pl_9999, pl_10000, pu_neg, pu_nn, pu_le, pu_lt, pu_eq, pu_cl, pu_in, pu_g, ↓pu_let, ↓pu_bind, pu_m1, pu_add, pu_mul, Nat.not_lt_zero, if_false, if_true, Nat.zero_le, pu_d2, pu_d100, pu_em1, ↓reduceIte, Nat.reduceEqDiff, Nat.reduceLT, Nat.reduceLeDiff, Nat.reduceAdd, Nat.reduceMul, Nat.reduceSub, not_true_eq_false, not_false_eq_true, and_true, true_and, and_false, false_and, or_true, true_or, or_false, false_or, Nat.lt_irrefl, Nat.le_refl, Nat.add_zero, Bool.false_eq_true, ↓pu_gI, nd_le, nd_leT, nd_lt, nd_ltT, nd_eq, nd_eqT, bgl k, bge k, bgle k, bggt k, bgne k, bgm1 k]
      rw [kc σ h 0 kw (by omega), if_pos rfl]
      exact j33 σ 5 _ _ _ (by omega) (by omega)
    · rw [kb σ h]
      by_cases g : p3 < 0
      · rw [if_pos g]
        exact m59 σ 5 _ _ _ (by omega) (by omega)
      · have hb2 := hb.resolve_left g
        have g2 : ¬ p3 ≤ 2 := fun q => by
          have := bgle hb2 (show 3 < 2147483648 by omega) (show 2 < 3 by omega)
          rw [show (2 : Int32) = nI 2 from rfl, this] at q
          exact q
        rw [if_neg g, if_neg g2]
        exact m59 σ 5 _ _ _ (by omega) (by omega)
  rcases pu_ix p3 3 (by omega) with h1 | h1 | ⟨w, hw, rfl⟩
  · exact five (Or.inl h1)
  · exact five (Or.inr h1)
  have kw : ∀ σ : nm_St, Nm_isWithin (nI w) 0 2 σ = some (nI 1, σ) := fun σ => by
    simp (disch := omega) only [Nm_isWithin, pl_0, pl_1, pl_2, pl_3, pl_4, pl_5, pl_6, pl_7, pl_8, pl_9, pl_10, pl_11, pl_12, pl_13, pl_14, pl_15, pl_16, pl_17, pl_18, pl_19, pl_20, pl_21, pl_30, pl_40, pl_50, pl_51, pl_60, pl_70, pl_71, pl_99, pl_100, pl_160, pl_240, pl_256, pl_300, pl_999, pl_1000, pl_1280, pl_9999, pl_10000, pu_neg, pu_nn, pu_le, pu_lt, pu_eq, pu_cl, pu_in, pu_g, ↓pu_let, ↓pu_bind, pu_m1, pu_add, pu_mul, Nat.not_lt_zero, if_false, if_true, Nat.zero_le, pu_d2, pu_d100, pu_em1, ↓reduceIte, Nat.reduceEqDiff, Nat.reduceLT, Nat.reduceLeDiff, Nat.reduceAdd, Nat.reduceMul, Nat.reduceSub, not_true_eq_false, not_false_eq_true, and_true, true_and, and_false, false_and, or_true, true_or, or_false, false_or, Nat.lt_irrefl, Nat.le_refl, Nat.add_zero, Bool.false_eq_true, ↓pu_gI, nd_le, nd_leT, nd_lt, nd_ltT, nd_eq, nd_eqT]
  have kM : ∀ σ, MF σ T U E → Md_behind (nI s) (nI n) (nI w) σ = if n ≤ 40 then Md_behind_j59 (nI s) (nI n) (nI w) 0 σ else Md_behind_j59 (nI s) (nI n) (nI w) (-6) σ := fun σ h => by
    rw [kb σ h, if_neg (nI_pos (by omega)), if_pos (show nI w ≤ 2 from nI_le (b := 2) (by omega) (by omega))]
  by_cases z : ¬ n ≤ 40
  · refine g_no hI (b := -nI 6) 6 (by omega) (by omega) (fun σ h => ?_) (fun σ h => ?_)
    · rw [kc σ h 1 (kw σ) (by omega), if_neg (by omega), if_neg z]
      exact j33 σ 6 _ _ _ (by omega) (by omega)
    · rw [kM σ h, if_neg z]
      exact m59 σ 6 _ _ _ (by omega) (by omega)
  replace z := Decidable.not_not.mp z
  obtain ⟨jI, j6⟩ := jd_I E s n n T hI
  have hw3 : w = 0 ∨ w = 1 ∨ w = 2 := by omega
  have mm := madeN_01 (jdR E s n n T).2 (atB (jdR E s n n T).2 1)
  have cls : ∀ σ, CF σ T U E → ∃ τ, IslU σ 16 τ (jdR E s n n T).2 ∧ ∀ v : Int32, ((jdR E s n n T).1 = -nI 1 → v = nI 0) → ((jdR E s n n T).1 ≠ -nI 1 → v = -nI 6) → Nm_behind (nI s) (nI n) (nI w) σ = Nm_behind_j57 (nI w) v τ := fun σ h => by
    obtain ⟨τ, e, u⟩ := nm_months h hP hs hle
    refine ⟨τ, u, fun v v1 v2 => ?_⟩
    rw [kc σ h 1 (kw σ) (by omega), if_neg (by omega), if_pos z]
    unfold Nm_behind_j33
    rw [if_pos nI_0]
    refine (gin hs (by omega)).trans ?_
    rw [sf_n (by omega), e]
    simp only [pu_bind, pl_0, pl_1, pl_2, pl_3, pl_4, pl_5, pl_6, pl_7, pl_8, pl_9, pl_10, pl_11, pl_12, pl_13, pl_14, pl_15, pl_16, pl_17, pl_18, pl_19, pl_20, pl_21, pl_30, pl_40, pl_50, pl_51, pl_60, pl_70, pl_71, pl_99, pl_100, pl_160, pl_240, pl_256, pl_300, pl_999, pl_1000, pl_1280, pl_9999, pl_10000]
    by_cases y : (jdR E s n n T).1 = -nI 1
    · rw [if_pos y, v1 y]
    · rw [if_neg y, v2 y]
  have mod : ∀ σ, MF σ T U E → ∃ τ υ, MdR υ T ∧ Fr [10, 11] σ υ ∧ (Md_behind (nI s) (nI n) (nI w) σ = if (jdR E s n n T).1 = -nI 1 then some (behA (jdR E s n n T).2 w, υ) else some (-nI 6, rfM υ 6)) ∧ Fr [10, 11] σ τ := fun σ h => by
    obtain ⟨ρ, τ, e1, e2, m2, f2, υ, e3, m3, f3⟩ := md_try h hP hs hle
    refine ⟨τ, υ, m3, f3, ?_, f2⟩
    have h128 : ∀ x y, Md_behind_j128 x y τ = if x = -nI 1 then some (y, υ) else some (-nI 6, rfM υ 6) := fun x y => by
      unfold Md_behind_j128
      simp (disch := omega) only [pl_0, pl_1, pl_2, pl_3, pl_4, pl_5, pl_6, pl_7, pl_8, pl_9, pl_10, pl_11, pl_12, pl_13, pl_14, pl_15, pl_16, pl_17, pl_18, pl_19, pl_20, pl_21, pl_30, pl_40, pl_50, pl_51, pl_60, pl_70, pl_71, pl_99, pl_100, pl_160, pl_240, pl_256, pl_300, pl_999, pl_1000, pl_1280, pl_9999, pl_10000, pu_neg, pu_nn, pu_le, pu_lt, pu_eq, pu_cl, pu_in, pu_g, ↓pu_let, ↓pu_bind, pu_m1, pu_add, pu_mul, Nat.not_lt_zero, if_false, if_true, Nat.zero_le, pu_d2, pu_d100, pu_em1, ↓reduceIte, Nat.reduceEqDiff, Nat.reduceLT, Nat.reduceLeDiff, Nat.reduceAdd, Nat.reduceMul, Nat.reduceSub, not_true_eq_false, not_false_eq_true, and_true, true_and, and_false, false_and, or_true, true_or, or_false, false_or, Nat.lt_irrefl, Nat.le_refl, Nat.add_zero, Bool.false_eq_true, ↓pu_gI, nd_le, nd_leT, nd_lt, nd_ltT, nd_eq, nd_eqT, e3, md_no]
    rw [kM σ h, if_pos z]
    unfold Md_behind_j59 behA
    simp only [pl_0, pl_1, pl_2, pl_3, pl_4, pl_5, pl_6, pl_7, pl_8, pl_9, pl_10, pl_11, pl_12, pl_13, pl_14, pl_15, pl_16, pl_17, pl_18, pl_19, pl_20, pl_21, pl_30, pl_40, pl_50, pl_51, pl_60, pl_70, pl_71, pl_99, pl_100, pl_160, pl_240, pl_256, pl_300, pl_999, pl_1000, pl_1280, pl_9999, pl_10000, ↓reduceIte, e1, e2, pu_bind]
    rcases hw3 with rfl | rfl | rfl
    · simp (disch := omega) only [pl_0, pl_1, pl_2, pl_3, pl_4, pl_5, pl_6, pl_7, pl_8, pl_9, pl_10, pl_11, pl_12, pl_13, pl_14, pl_15, pl_16, pl_17, pl_18, pl_19, pl_20, pl_21, pl_30, pl_40, pl_50, pl_51, pl_60, pl_70, pl_71, pl_99, pl_100, pl_160, pl_240, pl_256, pl_300, pl_999, pl_1000, pl_1280, pl_9999, pl_10000, pu_neg, pu_nn, pu_le, pu_lt, pu_eq, pu_cl, pu_in, pu_g, ↓pu_let, ↓pu_bind, pu_m1, pu_add, pu_mul, Nat.not_lt_zero, if_false, if_true, Nat.zero_le, pu_d2, pu_d100, pu_em1, ↓reduceIte, Nat.reduceEqDiff, Nat.reduceLT, Nat.reduceLeDiff, Nat.reduceAdd, Nat.reduceMul, Nat.reduceSub, not_true_eq_false, not_false_eq_true, and_true, true_and, and_false, false_and, or_true, true_or, or_false, false_or, Nat.lt_irrefl, Nat.le_refl, Nat.add_zero, Bool.false_eq_true, ↓pu_gI, nd_le, nd_leT, nd_lt, nd_ltT, nd_eq, nd_eqT, md_those m2 jI (show 1 ≤ 3 by omega), md_isMade m2 jI (f := atB (jdR E s n n T).2 1) (fun i hi => at_out hi), h128]
      rcases mm with q | q
      · rw [q]; first | rfl | (simp; done)
      · rw [q]; first | rfl | (simp; done)
    · simp (disch := omega) only [pl_0, pl_1, pl_2, pl_3, pl_4, pl_5, pl_6, pl_7, pl_8, pl_9, pl_10, pl_11, pl_12, pl_13, pl_14, pl_15, pl_16, pl_17, pl_18, pl_19, pl_20, pl_21, pl_30, pl_40, pl_50, pl_51, pl_60, pl_70, pl_71, pl_99, pl_100, pl_160, pl_240, pl_256, pl_300, pl_999, pl_1000, pl_1280, pl_9999, pl_10000, pu_neg, pu_nn, pu_le, pu_lt, pu_eq, pu_cl, pu_in, pu_g, ↓pu_let, ↓pu_bind, pu_m1, pu_add, pu_mul, Nat.not_lt_zero, if_false, if_true, Nat.zero_le, pu_d2, pu_d100, pu_em1, ↓reduceIte, Nat.reduceEqDiff, Nat.reduceLT, Nat.reduceLeDiff, Nat.reduceAdd, Nat.reduceMul, Nat.reduceSub, not_true_eq_false, not_false_eq_true, and_true, true_and, and_false, false_and, or_true, true_or, or_false, false_or, Nat.lt_irrefl, Nat.le_refl, Nat.add_zero, Bool.false_eq_true, ↓pu_gI, nd_le, nd_leT, nd_lt, nd_ltT, nd_eq, nd_eqT, h128, m2.q]
    · simp (disch := omega) only [pl_0, pl_1, pl_2, pl_3, pl_4, pl_5, pl_6, pl_7, pl_8, pl_9, pl_10, pl_11, pl_12, pl_13, pl_14, pl_15, pl_16, pl_17, pl_18, pl_19, pl_20, pl_21, pl_30, pl_40, pl_50, pl_51, pl_60, pl_70, pl_71, pl_99, pl_100, pl_160, pl_240, pl_256, pl_300, pl_999, pl_1000, pl_1280, pl_9999, pl_10000, pu_neg, pu_nn, pu_le, pu_lt, pu_eq, pu_cl, pu_in, pu_g, ↓pu_let, ↓pu_bind, pu_m1, pu_add, pu_mul, Nat.not_lt_zero, if_false, if_true, Nat.zero_le, pu_d2, pu_d100, pu_em1, ↓reduceIte, Nat.reduceEqDiff, Nat.reduceLT, Nat.reduceLeDiff, Nat.reduceAdd, Nat.reduceMul, Nat.reduceSub, not_true_eq_false, not_false_eq_true, and_true, true_and, and_false, false_and, or_true, true_or, or_false, false_or, Nat.lt_irrefl, Nat.le_refl, Nat.add_zero, Bool.false_eq_true, ↓pu_gI, nd_le, nd_leT, nd_lt, nd_ltT, nd_eq, nd_eqT, h128, m2.f]
  by_cases y : (jdR E s n n T).1 = -nI 1
  · refine ⟨0, behA (jdR E s n n T).2 w, T, by omega, hI, Nat.le_refl _, fun σ h => ?_, fun σ h => ?_⟩
    · obtain ⟨τ, u, k⟩ := cls σ h
      refine ⟨τ, ?_, h.1.fr2 u.2.fr16 rfl, u.2.fr16.mono rfl⟩
      rw [if_pos rfl, k (nI 0) (fun _ => rfl) (fun q => absurd y q)]
      unfold Nm_behind_j57 behA
      rcases hw3 with rfl | rfl | rfl
      · simp (disch := omega) only [pl_0, pl_1, pl_2, pl_3, pl_4, pl_5, pl_6, pl_7, pl_8, pl_9, pl_10, pl_11, pl_12, pl_13, pl_14, pl_15, pl_16, pl_17, pl_18, pl_19, pl_20, pl_21, pl_30, pl_40, pl_50, pl_51, pl_60, pl_70, pl_71, pl_99, pl_100, pl_160, pl_240, pl_256, pl_300, pl_999, pl_1000, pl_1280, pl_9999, pl_10000, pu_neg, pu_nn, pu_le, pu_lt, pu_eq, pu_cl, pu_in, pu_g, ↓pu_let, ↓pu_bind, pu_m1, pu_add, pu_mul, Nat.not_lt_zero, if_false, if_true, Nat.zero_le, pu_d2, pu_d100, pu_em1, ↓reduceIte, Nat.reduceEqDiff, Nat.reduceLT, Nat.reduceLeDiff, Nat.reduceAdd, Nat.reduceMul, Nat.reduceSub, not_true_eq_false, not_false_eq_true, and_true, true_and, and_false, false_and, or_true, true_or, or_false, false_or, Nat.lt_irrefl, Nat.le_refl, Nat.add_zero, Bool.false_eq_true, ↓pu_gI, nd_le, nd_leT, nd_lt, nd_ltT, nd_eq, nd_eqT, is_isMadeAbroad u.1 jI]
        rcases mm with q | q <;> rw [q] <;> rfl
      · simp (disch := omega) only [pl_0, pl_1, pl_2, pl_3, pl_4, pl_5, pl_6, pl_7, pl_8, pl_9, pl_10, pl_11, pl_12, pl_13, pl_14, pl_15, pl_16, pl_17, pl_18, pl_19, pl_20, pl_21, pl_30, pl_40, pl_50, pl_51, pl_60, pl_70, pl_71, pl_99, pl_100, pl_160, pl_240, pl_256, pl_300, pl_999, pl_1000, pl_1280, pl_9999, pl_10000, pu_neg, pu_nn, pu_le, pu_lt, pu_eq, pu_cl, pu_in, pu_g, ↓pu_let, ↓pu_bind, pu_m1, pu_add, pu_mul, Nat.not_lt_zero, if_false, if_true, Nat.zero_le, pu_d2, pu_d100, pu_em1, ↓reduceIte, Nat.reduceEqDiff, Nat.reduceLT, Nat.reduceLeDiff, Nat.reduceAdd, Nat.reduceMul, Nat.reduceSub, not_true_eq_false, not_false_eq_true, and_true, true_and, and_false, false_and, or_true, true_or, or_false, false_or, Nat.lt_irrefl, Nat.le_refl, Nat.add_zero, Bool.false_eq_true, ↓pu_gI, nd_le, nd_leT, nd_lt, nd_ltT, nd_eq, nd_eqT, u.1.q]
      · simp (disch := omega) only [pl_0, pl_1, pl_2, pl_3, pl_4, pl_5, pl_6, pl_7, pl_8, pl_9, pl_10, pl_11, pl_12, pl_13, pl_14, pl_15, pl_16, pl_17, pl_18, pl_19, pl_20, pl_21, pl_30, pl_40, pl_50, pl_51, pl_60, pl_70, pl_71, pl_99, pl_100, pl_160, pl_240, pl_256, pl_300, pl_999, pl_1000, pl_1280, pl_9999, pl_10000, pu_neg, pu_nn, pu_le, pu_lt, pu_eq, pu_cl, pu_in, pu_g, ↓pu_let, ↓pu_bind, pu_m1, pu_add, pu_mul, Nat.not_lt_zero, if_false, if_true, Nat.zero_le, pu_d2, pu_d100, pu_em1, ↓reduceIte, Nat.reduceEqDiff, Nat.reduceLT, Nat.reduceLeDiff, Nat.reduceAdd, Nat.reduceMul, Nat.reduceSub, not_true_eq_false, not_false_eq_true, and_true, true_and, and_false, false_and, or_true, true_or, or_false, false_or, Nat.lt_irrefl, Nat.le_refl, Nat.add_zero, Bool.false_eq_true, ↓pu_gI, nd_le, nd_leT, nd_lt, nd_ltT, nd_eq, nd_eqT, u.1.f]
    · obtain ⟨τ, υ, m3, f3, k, -⟩ := mod σ h
      rw [if_pos y] at k
      exact ⟨υ, by rw [if_pos rfl]; exact k, m3, f3⟩
  · refine ⟨6, -nI 6, T, by omega, hI, Nat.le_refl _, fun σ h => ?_, fun σ h => ?_⟩
    · obtain ⟨τ, u, k⟩ := cls σ h
      refine ⟨τ, ?_, h.1.fr2 u.2.fr16 rfl, u.2.fr16.mono rfl⟩
      rw [if_neg (by omega), k (-nI 6) (fun q => absurd q y) (fun _ => rfl)]
      exact j57 τ 6 _ (by omega) (by omega)
    · obtain ⟨τ, υ, m3, f3, k, -⟩ := mod σ h
      rw [if_neg y] at k
      exact ⟨υ, by rw [if_neg (by omega)]; exact k, m3, f3⟩
end JUD
