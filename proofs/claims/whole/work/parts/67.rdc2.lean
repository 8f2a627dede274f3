/-! the class's reader: numbers -/
section RDD
variable {g : Nat → Int32} {N : Nat} {σ a : nm_St} {p c : Nat} {f : Int32} {T : is_T}
theorem tr_num (h : TxC g N σ a p (-nI 1) c T) (hp : p ≤ N) {ok : Nat → Bool} {x1 x2 : Int32} (hok : ∀ v s, v ≤ 9999 → Nm_isWithin (nI v) x1 x2 s = some (nI (if ok v then 1 else 0), s)) : (∀ k, rdS g N ok p = .inl k → k ≤ N ∧ ∃ τ q, Tr_readNumber x1 x2 a = some (nI 0, τ) ∧ TxC g N σ τ q (nI k) c T) ∧ (∀ v q, rdS g N ok p = .inr (v, q) → ∃ τ, Tr_readNumber x1 x2 a = some (nI v, τ) ∧ TxC g N σ τ q (-nI 1) c T ∧ τ.1 42 4 = nI (p + 1)) := by
  have hN := h.2.2.2.2
  by_cases z : p < N ∧ g p = nI 32
  · have er : rdS g N ok p = if (nuG g N 4 0 (p + 1)).2 = p + 1 ∨ ok (nuG g N 4 0 (p + 1)).1 = false then .inl (p + 1) else .inr (nuG g N 4 0 (p + 1)) := by
      unfold rdS
      rw [if_pos z]
    have ks := tr_sign_t h hp z
    have h1 := h.to (p + 1)
    have n := nu_le g N 4 0 (p + 1) (by omega)
    obtain ⟨τ, t1, t2, t3⟩ := tr_l29 (g := g) (N := N) (σ := σ) (c := c) (T := T) (fun (e11 : Int32) (e12 : Int32) (e13 : Int32) (s10 : nm_St) => Tr_readNumber_j77 e11 e12 e13 s10) x1 x2 4 400 0 0 (p + 1) _ (by omega) (by omega) (h1.nu (nI (p + 1))) (by omega)
    rw [pI_eq] at t3
    have kf := tr_fail_n (nI (p + 1)) t2
    have st : Tr_readNumber x1 x2 a = Tr_readNumber_j77 x1 x2 (nI (nuG g N 4 0 (p + 1)).1) τ := by
      unfold Tr_readNumber
      simp (disch := omega) only [pl_32, pl_0, pl_1, pl_2, pl_3, pl_4, pl_5, pl_6, pl_7, pl_8, pl_9, pl_10, pl_11, pl_12, pl_13, pl_14, pl_15, pl_16, pl_17, pl_18, pl_19, pl_20, pl_21, pl_30, pl_40, pl_50, pl_51, pl_60, pl_70, pl_71, pl_99, pl_100, pl_160, pl_240, pl_256, pl_300, pl_999, pl_1000, pl_1280, pl_9999, pl_10000, pu_neg, pu_nn, pu_le, pu_lt, pu_eq, pu_cl, pu_in, pu_g, ↓pu_let, ↓pu_bind, pu_m1, pu_add, pu_mul, Nat.not_lt_zero, if_false, if_true, Nat.zero_le, pu_d2, pu_d100, pu_em1, ↓reduceIte, Nat.reduceEqDiff, Nat.reduceLT, Nat.reduceLeDiff, Nat.reduceAdd, Nat.reduceMul, Nat.reduceSub, not_true_eq_false, not_false_eq_true, and_true, true_and, and_false, false_and, or_true, true_or, or_false, false_or, Nat.lt_irrefl, Nat.le_refl, Nat.add_zero, Bool.false_eq_true, ↓pu_gI, nd_le, nd_leT, nd_lt, nd_ltT, nd_eq, nd_eqT, ks, h1.1.2.2.1, h1.1.2.1]
      rw [t1]
    have kw := hok (nuG g N 4 0 (p + 1)).1 τ (by omega)
    rw [st, er]
    clear st t1
    revert n t2 kf kw
    generalize nuG g N 4 0 (p + 1) = w
    obtain ⟨v, q⟩ := w
    intro n t2 kf kw
    have n1 : p + 1 ≤ q := n.1
    have n2 : q ≤ N := n.2.1
    have t2 : TxC g N σ τ q (-nI 1) c T := t2
    have kw : Nm_isWithin (nI v) x1 x2 τ = some (nI (if ok v then 1 else 0), τ) := kw
    have n3 : v ≤ 9999 := by
      have := n.2.2
      show v ≤ 9999
      have e4 : (10 : Nat) ^ 4 = 10000 := by decide
      rw [e4] at this
      exact Nat.le_trans this (by decide)
    clear n
    show (∀ k, (if q = p + 1 ∨ ok v = false then Sum.inl (p + 1) else Sum.inr (v, q)) = Sum.inl k → k ≤ N ∧ ∃ τ' q, Tr_readNumber_j77 x1 x2 (nI v) τ = some (nI 0, τ') ∧ TxC g N σ τ' q (nI k) c T) ∧ (∀ v' q', (if q = p + 1 ∨ ok v = false then Sum.inl (p + 1) else Sum.inr (v, q)) = Sum.inr (v', q') → ∃ τ', Tr_readNumber_j77 x1 x2 (nI v) τ = some (nI v', τ') ∧ TxC g N σ τ' q' (-nI 1) c T ∧ τ'.1 42 4 = nI (p + 1))
    unfold Tr_readNumber_j77
    by_cases y : q = p + 1
    · rw [if_pos (Or.inl y)]
      refine ⟨fun k hk => ?_, fun v q hk => by cases hk⟩
      injection hk with hk
      subst hk y
      refine ⟨by omega, _, _, ?_, t2.ft _⟩
      simp (disch := omega) only [Tr_readNumber_j97, pl_0, pl_1, pl_2, pl_3, pl_4, pl_5, pl_6, pl_7, pl_8, pl_9, pl_10, pl_11, pl_12, pl_13, pl_14, pl_15, pl_16, pl_17, pl_18, pl_19, pl_20, pl_21, pl_30, pl_40, pl_50, pl_51, pl_60, pl_70, pl_71, pl_99, pl_100, pl_160, pl_240, pl_256, pl_300, pl_999, pl_1000, pl_1280, pl_9999, pl_10000, pu_neg, pu_nn, pu_le, pu_lt, pu_eq, pu_cl, pu_in, pu_g, ↓pu_let, ↓pu_bind, pu_m1, pu_add, pu_mul, Nat.not_lt_zero, if_false, if_true, Nat.zero_le, pu_d2, pu_d100, pu_em1, ↓reduceIte, Nat.reduceEqDiff, Nat.reduceLT, Nat.reduceLeDiff, Nat.reduceAdd, Nat.reduceMul, Nat.reduceSub, not_true_eq_false, not_false_eq_true, and_true, true_and, and_false, false_and, or_true, true_or, or_false, false_or, Nat.lt_irrefl, Nat.le_refl, Nat.add_zero, Bool.false_eq_true, ↓pu_gI, nd_le, nd_leT, nd_lt, nd_ltT, nd_eq, nd_eqT, t2.1.2.1, t3, kf]
    · cases o : ok v with
      | false =>
        rw [o] at kw
        rw [if_neg (by decide)] at kw
        rw [if_pos (Or.inr rfl)]
        refine ⟨fun k hk => ?_, fun v q hk => by cases hk⟩
        injection hk with hk
        subst hk
        refine ⟨by omega, _, q, ?_, t2.ft _⟩
        simp (disch := omega) only [Tr_readNumber_j97, pl_0, pl_1, pl_2, pl_3, pl_4, pl_5, pl_6, pl_7, pl_8, pl_9, pl_10, pl_11, pl_12, pl_13, pl_14, pl_15, pl_16, pl_17, pl_18, pl_19, pl_20, pl_21, pl_30, pl_40, pl_50, pl_51, pl_60, pl_70, pl_71, pl_99, pl_100, pl_160, pl_240, pl_256, pl_300, pl_999, pl_1000, pl_1280, pl_9999, pl_10000, pu_neg, pu_nn, pu_le, pu_lt, pu_eq, pu_cl, pu_in, pu_g, ↓pu_let, ↓pu_bind, pu_m1, pu_add, pu_mul, Nat.not_lt_zero, if_false, if_true, Nat.zero_le, pu_d2, pu_d100, pu_em1, ↓reduceIte, Nat.reduceEqDiff, Nat.reduceLT, Nat.reduceLeDiff, Nat.reduceAdd, Nat.reduceMul, Nat.reduceSub, not_true_eq_false, not_false_eq_true, and_true, true_and, and_false, false_and, or_true, true_or, or_false, false_or, Nat.lt_irrefl, Nat.le_refl, Nat.add_zero, Bool.false_eq_true, ↓pu_gI, nd_le, nd_leT, nd_lt, nd_ltT, nd_eq, nd_eqT, t2.1.2.1, t3, kf, kw]
      | true =>
        rw [o] at kw
        rw [if_pos rfl] at kw
        rw [if_neg (fun w => w.elim y (fun w => by cases w))]
        refine ⟨fun k hk => (by cases hk), fun v' q' hk => ?_⟩
        injection hk with hk
        injection hk with hv hq
        subst hv hq
        refine ⟨τ, ?_, t2, t3⟩
        simp (disch := omega) only [pl_0, pl_1, pl_2, pl_3, pl_4, pl_5, pl_6, pl_7, pl_8, pl_9, pl_10, pl_11, pl_12, pl_13, pl_14, pl_15, pl_16, pl_17, pl_18, pl_19, pl_20, pl_21, pl_30, pl_40, pl_50, pl_51, pl_60, pl_70, pl_71, pl_99, pl_100, pl_160, pl_240, pl_256, pl_300, pl_999, pl_1000, pl_1280, pl_9999, pl_10000, pu_neg, pu_nn, pu_le, pu_lt, pu_eq, pu_cl, pu_in, pu_g, ↓pu_let, ↓pu_bind, pu_m1, pu_add, pu_mul, Nat.not_lt_zero, if_false, if_true, Nat.zero_le, pu_d2, pu_d100, pu_em1, ↓reduceIte, Nat.reduceEqDiff, Nat.reduceLT, Nat.reduceLeDiff, Nat.reduceAdd, Nat.reduceMul, Nat.reduceSub, not_true_eq_false, not_false_eq_true, and_true, true_and, and_false, false_and, or_true, true_or, or_false, false_or, Nat.lt_irrefl, Nat.le_refl, Nat.add_zero, Bool.false_eq_true, ↓pu_gI, nd_le, nd_leT, nd_lt, nd_ltT, nd_eq, nd_eqT, t2.1.2.1, t3, kw]
  · have er : rdS g N ok p = .inl p := by
      unfold rdS
      rw [if_neg z]
    have ks := tr_sign_f h hp z
    rw [er]
    refine ⟨fun k hk => ?_, fun v' q' hk => (by cases hk)⟩
    injection hk with hk
    subst hk
    have h1 := h.ft (nI p)
    refine ⟨hp, _, p, ?_, h1⟩
    unfold Tr_readNumber
    simp (disch := omega) only [pl_32, pl_0, pl_1, pl_2, pl_3, pl_4, pl_5, pl_6, pl_7, pl_8, pl_9, pl_10, pl_11, pl_12, pl_13, pl_14, pl_15, pl_16, pl_17, pl_18, pl_19, pl_20, pl_21, pl_30, pl_40, pl_50, pl_51, pl_60, pl_70, pl_71, pl_99, pl_100, pl_160, pl_240, pl_256, pl_300, pl_999, pl_1000, pl_1280, pl_9999, pl_10000, pu_neg, pu_nn, pu_le, pu_lt, pu_eq, pu_cl, pu_in, pu_g, ↓pu_let, ↓pu_bind, pu_m1, pu_add, pu_mul, Nat.not_lt_zero, if_false, if_true, Nat.zero_le, pu_d2, pu_d100, pu_em1, ↓reduceIte, Nat.reduceEqDiff, Nat.reduceLT, Nat.reduceLeDiff, Nat.reduceAdd, Nat.reduceMul, Nat.reduceSub, not_true_eq_false, not_false_eq_true, and_true, true_and, and_false, false_and, or_true, true_or, or_false, false_or, Nat.lt_irrefl, Nat.le_refl, Nat.add_zero, Bool.false_eq_true, ↓pu_gI, nd_le, nd_leT, nd_lt, nd_ltT, nd_eq, nd_eqT, ks, h1.1.2.2.1]
end RDD
