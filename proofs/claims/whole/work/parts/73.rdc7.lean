/-! the class's reader: all items -/
section RDI
variable {g : Nat → Int32} {N : Nat} {σ : nm_St}
theorem tr_l30 (o1 o2 : Nat) (K : nm_St → Option (Int32 × nm_St)) : ∀ k fuel i p c T a, TxC g N σ a p (-nI 1) c T → p ≤ N → IslI T → i ≤ p → N + 1 ≤ k + p → k < fuel → (∀ f, txS g N k p T c = .inl f → f ≤ N + 5 ∧ ∃ τ q d V, Tr_readAll_l30 o1 o2 K fuel (nI i) a = K τ ∧ TxC g N σ τ q (nI f) d V) ∧ ∀ V d, txS g N k p T c = .inr (V, d) → IslI V ∧ T 0 6 ≤ V 0 6 ∧ ∃ τ q, Tr_readAll_l30 o1 o2 K fuel (nI i) a = K τ ∧ TxC g N σ τ q (-nI 1) d V := by
  intro k
  induction k with
  | zero => intro fuel i p c T a h hp hI hi hk; omega
  | succ k ih =>
    intro fuel i p c T a h hp hI hi hk hf
    have hN := h.2.2.2.2
    obtain ⟨m, rfl⟩ : ∃ m, fuel = m + 1 := ⟨fuel - 1, by omega⟩
    have R := tr_item h hp hI
    cases e : itS g N T p with
    | inl f =>
      have et : txS g N (k + 1) p T c = .inl f := by
        show (match itS g N T p with
          | .inl f => .inl f
          | .inr (q, V) => if q < N then (if g q = nI 59 then txS g N k (q + 1) V (c + 1) else .inl q) else .inr (V, c + 1)) = _
        rw [e]
      have hb := it_l3 hp e
      obtain ⟨τ, q, e1, t⟩ := R.1 f e
      have t9 := t.ct (c + 1)
      have ks := tr_sign_o t9 rfl (show f < 2147483648 by omega) (nI 59)
      obtain ⟨m2, rfl⟩ : ∃ m2, m = m2 + 1 := ⟨m - 1, by omega⟩
      rw [et]
      refine ⟨fun f' hf' => ?_, fun V d hf' => by cases hf'⟩
      injection hf' with hf'
      subst hf'
      refine ⟨hb, _, q, c + 1, T, ?_, t9⟩
      by_cases y : nI q < nI N
      · simp (disch := omega) only [Tr_readAll_l30, pl_59, pl_0, pl_1, pl_2, pl_3, pl_4, pl_5, pl_6, pl_7, pl_8, pl_9, pl_10, pl_11, pl_12, pl_13, pl_14, pl_15, pl_16, pl_17, pl_18, pl_19, pl_20, pl_21, pl_30, pl_40, pl_50, pl_51, pl_60, pl_70, pl_71, pl_99, pl_100, pl_160, pl_240, pl_256, pl_300, pl_999, pl_1000, pl_1280, pl_9999, pl_10000, pu_neg, pu_nn, pu_le, pu_lt, pu_eq, pu_cl, pu_in, pu_g, ↓pu_let, ↓pu_bind, pu_m1, pu_add, pu_mul, Nat.not_lt_zero, if_false, if_true, Nat.zero_le, pu_d2, pu_d100, pu_em1, ↓reduceIte, Nat.reduceEqDiff, Nat.reduceLT, Nat.reduceLeDiff, Nat.reduceAdd, Nat.reduceMul, Nat.reduceSub, not_true_eq_false, not_false_eq_true, and_true, true_and, and_false, false_and, or_true, true_or, or_false, false_or, Nat.lt_irrefl, Nat.le_refl, Nat.add_zero, Bool.false_eq_true, ↓pu_gI, nd_le, nd_leT, nd_lt, nd_ltT, nd_eq, nd_eqT, h.1.2.2.1, e1, t.1.2.2.2, t9.1.1, t9.1.2.1, t9.1.2.2.1, y, ks]
        first | done | (by_cases x : i + 1 ≤ 160 <;> simp (disch := omega) only [pl_0, pl_1, pl_2, pl_3, pl_4, pl_5, pl_6, pl_7, pl_8, pl_9, pl_10, pl_11, pl_12, pl_13, pl_14, pl_15, pl_16, pl_17, pl_18, pl_19, pl_20, pl_21, pl_30, pl_40, pl_50, pl_51, pl_60, pl_70, pl_71, pl_99, pl_100, pl_160, pl_240, pl_256, pl_300, pl_999, pl_1000, pl_1280, pl_9999, pl_10000, pu_neg, pu_nn, pu_le, pu_lt, pu_eq, pu_cl, pu_in, pu_g, ↓pu_let, ↓pu_bind, pu_m1, pu_add, pu_mul, Nat.not_lt_zero, if_false, if_true, Nat.zero_le, pu_d2, pu_d100, pu_em1, ↓reduceIte, Nat.reduceEqDiff, Nat.reduceLT, Nat.reduceLeDiff, Nat.reduceAdd, Nat.reduceMul, Nat.reduceSub, not_true_eq_false, not_false_eq_true, and_true, true_and, and_false, false_and, or_true, true_or, or_false, false_or, Nat.lt_irrefl, Nat.le_refl, Nat.add_zero, Bool.false_eq_true, ↓pu_gI, nd_le, nd_leT, nd_lt, nd_ltT, nd_eq, nd_eqT])
      · simp (disch := omega) only [Tr_readAll_l30, pl_59, pl_0, pl_1, pl_2, pl_3, pl_4, pl_5, pl_6, pl_7, pl_8, pl_9, pl_10, pl_11, pl_12, pl_13, pl_14, pl_15, pl_16, pl_17, pl_18, pl_19, pl_20, pl_21, pl_30, pl_40, pl_50, pl_51, pl_60, pl_70, pl_71, pl_99, pl_100, pl_160, pl_240, pl_256, pl_300, pl_999, pl_1000, pl_1280, pl_9999, pl_10000, pu_neg, pu_nn, pu_le, pu_lt, pu_eq, pu_cl, pu_in, pu_g, ↓pu_let, ↓pu_bind, pu_m1, pu_add, pu_mul, Nat.not_lt_zero, if_false, if_true, Nat.zero_le, pu_d2, pu_d100, pu_em1, ↓reduceIte, Nat.reduceEqDiff, Nat.reduceLT, Nat.reduceLeDiff, Nat.reduceAdd, Nat.reduceMul, Nat.reduceSub, not_true_eq_false, not_false_eq_true, and_true, true_and, and_false, false_and, or_true, true_or, or_false, false_or, Nat.lt_irrefl, Nat.le_refl, Nat.add_zero, Bool.false_eq_true, ↓pu_gI, nd_le, nd_leT, nd_lt, nd_ltT, nd_eq, nd_eqT, h.1.2.2.1, e1, t.1.2.2.2, t9.1.1, t9.1.2.1, t9.1.2.2.1, y, ks]
    | inr qV =>
      obtain ⟨q, V⟩ := qV
      have r := it_r3 hI hp e
      obtain ⟨τ, e1, t⟩ := R.2 q V e
      have t9 := t.ct (c + 1)
      have et : txS g N (k + 1) p T c = if q < N then (if g q = nI 59 then txS g N k (q + 1) V (c + 1) else .inl q) else .inr (V, c + 1) := by
        show (match itS g N T p with
          | .inl f => .inl f
          | .inr (q, V) => if q < N then (if g q = nI 59 then txS g N k (q + 1) V (c + 1) else .inl q) else .inr (V, c + 1)) = _
        rw [e]
      rw [et]
      by_cases y : q < N
      · rw [if_pos y]
        by_cases z : g q = nI 59
        · rw [if_pos z]
          have ks := tr_sign_t t9 r.2.1 ⟨y, z⟩
          have I := ih m (i + 1) (q + 1) (c + 1) V _ (t9.to (q + 1)) (by omega) r.2.2.1 (by omega) (by omega) (by omega)
          have st : Tr_readAll_l30 o1 o2 K (m + 1) (nI i) a = Tr_readAll_l30 o1 o2 K m (nI (i + 1)) (nm_pI (nm_pI τ 42 5 (nI (c + 1))) 42 3 (nI (q + 1))) := by
            simp (disch := omega) only [Tr_readAll_l30, pl_59, pl_0, pl_1, pl_2, pl_3, pl_4, pl_5, pl_6, pl_7, pl_8, pl_9, pl_10, pl_11, pl_12, pl_13, pl_14, pl_15, pl_16, pl_17, pl_18, pl_19, pl_20, pl_21, pl_30, pl_40, pl_50, pl_51, pl_60, pl_70, pl_71, pl_99, pl_100, pl_160, pl_240, pl_256, pl_300, pl_999, pl_1000, pl_1280, pl_9999, pl_10000, pu_neg, pu_nn, pu_le, pu_lt, pu_eq, pu_cl, pu_in, pu_g, ↓pu_let, ↓pu_bind, pu_m1, pu_add, pu_mul, Nat.not_lt_zero, if_false, if_true, Nat.zero_le, pu_d2, pu_d100, pu_em1, ↓reduceIte, Nat.reduceEqDiff, Nat.reduceLT, Nat.reduceLeDiff, Nat.reduceAdd, Nat.reduceMul, Nat.reduceSub, not_true_eq_false, not_false_eq_true, and_true, true_and, and_false, false_and, or_true, true_or, or_false, false_or, Nat.lt_irrefl, Nat.le_refl, Nat.add_zero, Bool.false_eq_true, ↓pu_gI, nd_le, nd_leT, nd_lt, nd_ltT, nd_eq, nd_eqT, h.1.2.2.1, e1, t.1.2.2.2, t9.1.1, t9.1.2.1, t9.1.2.2.1, ks]
          rw [st]
          exact ⟨I.1, fun W d hd => ⟨(I.2 W d hd).1, Nat.le_trans r.2.2.2 (I.2 W d hd).2.1, (I.2 W d hd).2.2⟩⟩
        · rw [if_neg z]
          have ks := tr_sign_f t9 r.2.1 (s := 59) (fun w => z w.2)
          have t10 := t9.ft (nI q)
          obtain ⟨m2, rfl⟩ : ∃ m2, m = m2 + 1 := ⟨m - 1, by omega⟩
          refine ⟨fun f' hf' => ?_, fun V d hf' => by cases hf'⟩
          injection hf' with hf'
          subst hf'
          refine ⟨by omega, _, q, c + 1, V, ?_, t10⟩
          by_cases x : i + 1 ≤ 160
          · simp (disch := omega) only [Tr_readAll_l30, pl_59, pl_0, pl_1, pl_2, pl_3, pl_4, pl_5, pl_6, pl_7, pl_8, pl_9, pl_10, pl_11, pl_12, pl_13, pl_14, pl_15, pl_16, pl_17, pl_18, pl_19, pl_20, pl_21, pl_30, pl_40, pl_50, pl_51, pl_60, pl_70, pl_71, pl_99, pl_100, pl_160, pl_240, pl_256, pl_300, pl_999, pl_1000, pl_1280, pl_9999, pl_10000, pu_neg, pu_nn, pu_le, pu_lt, pu_eq, pu_cl, pu_in, pu_g, ↓pu_let, ↓pu_bind, pu_m1, pu_add, pu_mul, Nat.not_lt_zero, if_false, if_true, Nat.zero_le, pu_d2, pu_d100, pu_em1, ↓reduceIte, Nat.reduceEqDiff, Nat.reduceLT, Nat.reduceLeDiff, Nat.reduceAdd, Nat.reduceMul, Nat.reduceSub, not_true_eq_false, not_false_eq_true, and_true, true_and, and_false, false_and, or_true, true_or, or_false, false_or, Nat.lt_irrefl, Nat.le_refl, Nat.add_zero, Bool.false_eq_true, ↓pu_gI, nd_le, nd_leT, nd_lt, nd_ltT, nd_eq, nd_eqT, h.1.2.2.1, e1, t.1.2.2.2, t9.1.1, t9.1.2.1, t9.1.2.2.1, ks, t10.1.2.2.1]
          · simp (disch := omega) only [Tr_readAll_l30, pl_59, pl_0, pl_1, pl_2, pl_3, pl_4, pl_5, pl_6, pl_7, pl_8, pl_9, pl_10, pl_11, pl_12, pl_13, pl_14, pl_15, pl_16, pl_17, pl_18, pl_19, pl_20, pl_21, pl_30, pl_40, pl_50, pl_51, pl_60, pl_70, pl_71, pl_99, pl_100, pl_160, pl_240, pl_256, pl_300, pl_999, pl_1000, pl_1280, pl_9999, pl_10000, pu_neg, pu_nn, pu_le, pu_lt, pu_eq, pu_cl, pu_in, pu_g, ↓pu_let, ↓pu_bind, pu_m1, pu_add, pu_mul, Nat.not_lt_zero, if_false, if_true, Nat.zero_le, pu_d2, pu_d100, pu_em1, ↓reduceIte, Nat.reduceEqDiff, Nat.reduceLT, Nat.reduceLeDiff, Nat.reduceAdd, Nat.reduceMul, Nat.reduceSub, not_true_eq_false, not_false_eq_true, and_true, true_and, and_false, false_and, or_true, true_or, or_false, false_or, Nat.lt_irrefl, Nat.le_refl, Nat.add_zero, Bool.false_eq_true, ↓pu_gI, nd_le, nd_leT, nd_lt, nd_ltT, nd_eq, nd_eqT, h.1.2.2.1, e1, t.1.2.2.2, t9.1.1, t9.1.2.1, t9.1.2.2.1, ks, t10.1.2.2.1]
      · rw [if_neg y]
        refine ⟨fun f' hf' => by cases hf', fun W d hd => ?_⟩
        injection hd with hd
        injection hd with hA hB
        subst hA hB
        refine ⟨r.2.2.1, r.2.2.2, _, q, ?_, t9⟩
        simp (disch := omega) only [Tr_readAll_l30, pl_59, pl_0, pl_1, pl_2, pl_3, pl_4, pl_5, pl_6, pl_7, pl_8, pl_9, pl_10, pl_11, pl_12, pl_13, pl_14, pl_15, pl_16, pl_17, pl_18, pl_19, pl_20, pl_21, pl_30, pl_40, pl_50, pl_51, pl_60, pl_70, pl_71, pl_99, pl_100, pl_160, pl_240, pl_256, pl_300, pl_999, pl_1000, pl_1280, pl_9999, pl_10000, pu_neg, pu_nn, pu_le, pu_lt, pu_eq, pu_cl, pu_in, pu_g, ↓pu_let, ↓pu_bind, pu_m1, pu_add, pu_mul, Nat.not_lt_zero, if_false, if_true, Nat.zero_le, pu_d2, pu_d100, pu_em1, ↓reduceIte, Nat.reduceEqDiff, Nat.reduceLT, Nat.reduceLeDiff, Nat.reduceAdd, Nat.reduceMul, Nat.reduceSub, not_true_eq_false, not_false_eq_true, and_true, true_and, and_false, false_and, or_true, true_or, or_false, false_or, Nat.lt_irrefl, Nat.le_refl, Nat.add_zero, Bool.false_eq_true, ↓pu_gI, nd_le, nd_leT, nd_lt, nd_ltT, nd_eq, nd_eqT, h.1.2.2.1, e1, t.1.2.2.2, t9.1.1, t9.1.2.1, t9.1.2.2.1]
end RDI
