/-! the class's reader: items of two numbers and of three -/
section RDG
variable {g : Nat → Int32} {N : Nat} {σ a : nm_St} {p c : Nat} {f : Int32} {T : is_T}
theorem ns_2l {w v q k : Nat} (hw : nuC w ≠ 1) (h : rdS g N (okS T w 0 0) p = .inr (v, q)) (h2 : rdS g N (okS T w 1 v) q = .inl k) : nsS g N T w p = .inl k := by
  unfold nsS
  rw [h]
  simp only [if_neg hw, h2]
theorem ns_2 {w v q b r : Nat} (hw : nuC w = 2) (h : rdS g N (okS T w 0 0) p = .inr (v, q)) (h2 : rdS g N (okS T w 1 v) q = .inr (b, r)) : nsS g N T w p = .inr (r, doS T w v b 0) := by
  unfold nsS
  rw [h]
  have hn : nuC w ≠ 1 := by omega
  simp only [if_neg hn, h2, if_pos hw]
theorem ns_3l {w v q b r k : Nat} (hw : nuC w = 3) (h : rdS g N (okS T w 0 0) p = .inr (v, q)) (h2 : rdS g N (okS T w 1 v) q = .inr (b, r)) (h3 : rdS g N (okS T w 2 v) r = .inl k) : nsS g N T w p = .inl k := by
  unfold nsS
  rw [h]
  have hn : nuC w ≠ 1 := by omega
  have hn2 : nuC w ≠ 2 := by omega
  simp only [if_neg hn, h2, if_neg hn2, h3]
theorem ns_3 {w v q b r d s : Nat} (hw : nuC w = 3) (h : rdS g N (okS T w 0 0) p = .inr (v, q)) (h2 : rdS g N (okS T w 1 v) q = .inr (b, r)) (h3 : rdS g N (okS T w 2 v) r = .inr (d, s)) : nsS g N T w p = .inr (s, doS T w v b d) := by
  unfold nsS
  rw [h]
  have hn : nuC w ≠ 1 := by omega
  have hn2 : nuC w ≠ 2 := by omega
  simp only [if_neg hn, h2, if_neg hn2, h3]
theorem TxC.e6 (h : TxC g N σ a p f c T) : a.1 43 6 = nI (T 0 6) := h.2.2.1.2 6 (by omega) (by omega)
theorem TxC.e7 (h : TxC g N σ a p f c T) : a.1 43 7 = nI (T 0 7) := h.2.2.1.2 7 (by omega) (by omega)
theorem dec1 : decide (nI 1 ≠ nI 0) = true := by decide +kernel
theorem tr_knows (h : TxC g N σ a p (-nI 1) c T) (hp : p ≤ N) (hI : IslI T) : RI g N σ c T (nsS g N T 2 p) (Tr_readKnows a) := by
  have hN := h.2.2.2.2
  have h6 := hI.1
  have h7 := hI.2.1
  have R := tr_num h hp (ok := okS T 2 0 0) (fun v s hv => wi_m (n := T 0 6) s (by omega) hv)
  unfold Tr_readKnows
  cases e : rdS g N (okS T 2 0 0) p with
  | inl k =>
    obtain ⟨hk, τ, q, e1, t⟩ := R.1 k e
    have e2 := tr_num_o t (by omega) (nI 0) (nI (T 0 7) - nI 1)
    refine RI.l (ns_l e) ?_ t
    simp (disch := omega) only [pl_0, pl_1, pl_2, pl_3, pl_4, pl_5, pl_6, pl_7, pl_8, pl_9, pl_10, pl_11, pl_12, pl_13, pl_14, pl_15, pl_16, pl_17, pl_18, pl_19, pl_20, pl_21, pl_30, pl_40, pl_50, pl_51, pl_60, pl_70, pl_71, pl_99, pl_100, pl_160, pl_240, pl_256, pl_300, pl_999, pl_1000, pl_1280, pl_9999, pl_10000, pu_neg, pu_nn, pu_le, pu_lt, pu_eq, pu_cl, pu_in, pu_g, ↓pu_let, ↓pu_bind, pu_m1, pu_add, pu_mul, Nat.not_lt_zero, if_false, if_true, Nat.zero_le, pu_d2, pu_d100, pu_em1, ↓reduceIte, Nat.reduceEqDiff, Nat.reduceLT, Nat.reduceLeDiff, Nat.reduceAdd, Nat.reduceMul, Nat.reduceSub, not_true_eq_false, not_false_eq_true, and_true, true_and, and_false, false_and, or_true, true_or, or_false, false_or, Nat.lt_irrefl, Nat.le_refl, Nat.add_zero, Bool.false_eq_true, ↓pu_gI, nd_le, nd_leT, nd_lt, nd_ltT, nd_eq, nd_eqT, h.e6, e1, t.e7, e2, t.1.2.2.1]
  | inr vq =>
    obtain ⟨m, q⟩ := vq
    obtain ⟨τ, e1, t, _⟩ := R.2 m q e
    have r := rd_r hp e
    have hm : m < T 0 6 := of_decide_eq_true r.2.2.1
    have R2 := tr_num t r.2.1 (ok := okS T 2 1 m) (fun v s hv => wi_m (n := T 0 7) s (by omega) hv)
    cases d : rdS g N (okS T 2 1 m) q with
    | inl k =>
      obtain ⟨hk, ρ, q2, e2, t2⟩ := R2.1 k d
      refine RI.l (ns_2l (by decide) e d) ?_ t2
      simp (disch := omega) only [pl_0, pl_1, pl_2, pl_3, pl_4, pl_5, pl_6, pl_7, pl_8, pl_9, pl_10, pl_11, pl_12, pl_13, pl_14, pl_15, pl_16, pl_17, pl_18, pl_19, pl_20, pl_21, pl_30, pl_40, pl_50, pl_51, pl_60, pl_70, pl_71, pl_99, pl_100, pl_160, pl_240, pl_256, pl_300, pl_999, pl_1000, pl_1280, pl_9999, pl_10000, pu_neg, pu_nn, pu_le, pu_lt, pu_eq, pu_cl, pu_in, pu_g, ↓pu_let, ↓pu_bind, pu_m1, pu_add, pu_mul, Nat.not_lt_zero, if_false, if_true, Nat.zero_le, pu_d2, pu_d100, pu_em1, ↓reduceIte, Nat.reduceEqDiff, Nat.reduceLT, Nat.reduceLeDiff, Nat.reduceAdd, Nat.reduceMul, Nat.reduceSub, not_true_eq_false, not_false_eq_true, and_true, true_and, and_false, false_and, or_true, true_or, or_false, false_or, Nat.lt_irrefl, Nat.le_refl, Nat.add_zero, Bool.false_eq_true, ↓pu_gI, nd_le, nd_leT, nd_lt, nd_ltT, nd_eq, nd_eqT, h.e6, e1, t.e7, e2, t2.1.2.2.1]
    | inr vq =>
      obtain ⟨b, q2⟩ := vq
      obtain ⟨ρ, e2, t2, _⟩ := R2.2 b q2 d
      have r2 := rd_r r.2.1 d
      have hb : b < T 0 7 := of_decide_eq_true r2.2.2.1
      obtain ⟨ν, e3, u⟩ := is_learn t2.2.2.1 hI hm hb (nI 1)
      rw [dec1] at u
      refine RI.r (ns_2 rfl e d) ?_ (t2.isl u)
      simp (disch := omega) only [pl_0, pl_1, pl_2, pl_3, pl_4, pl_5, pl_6, pl_7, pl_8, pl_9, pl_10, pl_11, pl_12, pl_13, pl_14, pl_15, pl_16, pl_17, pl_18, pl_19, pl_20, pl_21, pl_30, pl_40, pl_50, pl_51, pl_60, pl_70, pl_71, pl_99, pl_100, pl_160, pl_240, pl_256, pl_300, pl_999, pl_1000, pl_1280, pl_9999, pl_10000, pu_neg, pu_nn, pu_le, pu_lt, pu_eq, pu_cl, pu_in, pu_g, ↓pu_let, ↓pu_bind, pu_m1, pu_add, pu_mul, Nat.not_lt_zero, if_false, if_true, Nat.zero_le, pu_d2, pu_d100, pu_em1, ↓reduceIte, Nat.reduceEqDiff, Nat.reduceLT, Nat.reduceLeDiff, Nat.reduceAdd, Nat.reduceMul, Nat.reduceSub, not_true_eq_false, not_false_eq_true, and_true, true_and, and_false, false_and, or_true, true_or, or_false, false_or, Nat.lt_irrefl, Nat.le_refl, Nat.add_zero, Bool.false_eq_true, ↓pu_gI, nd_le, nd_leT, nd_lt, nd_ltT, nd_eq, nd_eqT, h.e6, e1, t.e7, e2, t2.1.2.2.1, e3]
theorem tr_kin (h : TxC g N σ a p (-nI 1) c T) (hp : p ≤ N) (hI : IslI T) : RI g N σ c T (nsS g N T 3 p) (Tr_readKin a) := by
  have hN := h.2.2.2.2
  have h6 := hI.1
  have eo : okS T 3 0 0 = fun v => decide (v < T 0 6) := by
    funext v
    show (decide (v < T 0 6) && (decide ((0 : Nat) = 0) || decide (v ≠ 0))) = _
    rw [decide_eq_true rfl, Bool.true_or, Bool.and_true]
  have R := tr_num h hp (ok := fun v => decide (v < T 0 6)) (fun v s hv => wi_m (n := T 0 6) s (by omega) hv)
  rw [← eo] at R
  unfold Tr_readKin
  cases e : rdS g N (okS T 3 0 0) p with
  | inl k =>
    obtain ⟨hk, τ, q, e1, t⟩ := R.1 k e
    have e2 := tr_num_o t (by omega) (nI 0) (nI (T 0 6) - nI 1)
    have kf := tr_fail_o (τ.1 42 4) t (by omega)
    refine RI.l (ns_l e) ?_ t
    simp (disch := omega) only [Tr_readKin_j43, pl_0, pl_1, pl_2, pl_3, pl_4, pl_5, pl_6, pl_7, pl_8, pl_9, pl_10, pl_11, pl_12, pl_13, pl_14, pl_15, pl_16, pl_17, pl_18, pl_19, pl_20, pl_21, pl_30, pl_40, pl_50, pl_51, pl_60, pl_70, pl_71, pl_99, pl_100, pl_160, pl_240, pl_256, pl_300, pl_999, pl_1000, pl_1280, pl_9999, pl_10000, pu_neg, pu_nn, pu_le, pu_lt, pu_eq, pu_cl, pu_in, pu_g, ↓pu_let, ↓pu_bind, pu_m1, pu_add, pu_mul, Nat.not_lt_zero, if_false, if_true, Nat.zero_le, pu_d2, pu_d100, pu_em1, ↓reduceIte, Nat.reduceEqDiff, Nat.reduceLT, Nat.reduceLeDiff, Nat.reduceAdd, Nat.reduceMul, Nat.reduceSub, not_true_eq_false, not_false_eq_true, and_true, true_and, and_false, false_and, or_true, true_or, or_false, false_or, Nat.lt_irrefl, Nat.le_refl, Nat.add_zero, Bool.false_eq_true, ↓pu_gI, nd_le, nd_leT, nd_lt, nd_ltT, nd_eq, nd_eqT, h.e6, e1, t.e6, e2, kf, t.1.2.2.1]
  | inr vq =>
    obtain ⟨m, q⟩ := vq
    obtain ⟨τ, e1, t, _⟩ := R.2 m q e
    have r := rd_r hp e
    have hm : m < T 0 6 := by
      have := r.2.2.1
      rw [eo] at this
      exact of_decide_eq_true this
    have R2 := tr_num t r.2.1 (ok := fun v => decide (v < T 0 6)) (fun v s hv => wi_m (n := T 0 6) s (by omega) hv)
    have eo2 : ∀ v, okS T 3 1 m v = (decide (v < T 0 6) && decide (v ≠ m)) := by
      intro v
      show (decide (v < T 0 6) && (decide ((1 : Nat) = 0) || decide (v ≠ m))) = _
      rw [decide_eq_false (show ¬ (1 : Nat) = 0 by decide), Bool.false_or]
    cases d : rdS g N (fun v => decide (v < T 0 6)) q with
    | inl k =>
      obtain ⟨hk, ρ, q2, e2, t2⟩ := R2.1 k d
      have kf := tr_fail_o (ρ.1 42 4) t2 (by omega)
      refine RI.l (ns_2l (by decide) e (rd_and_l eo2 d)) ?_ t2
      by_cases m0 : m = 0
      · subst m0
        simp (disch := omega) only [Tr_readKin_j43, pl_0, pl_1, pl_2, pl_3, pl_4, pl_5, pl_6, pl_7, pl_8, pl_9, pl_10, pl_11, pl_12, pl_13, pl_14, pl_15, pl_16, pl_17, pl_18, pl_19, pl_20, pl_21, pl_30, pl_40, pl_50, pl_51, pl_60, pl_70, pl_71, pl_99, pl_100, pl_160, pl_240, pl_256, pl_300, pl_999, pl_1000, pl_1280, pl_9999, pl_10000, pu_neg, pu_nn, pu_le, pu_lt, pu_eq, pu_cl, pu_in, pu_g, ↓pu_let, ↓pu_bind, pu_m1, pu_add, pu_mul, Nat.not_lt_zero, if_false, if_true, Nat.zero_le, pu_d2, pu_d100, pu_em1, ↓reduceIte, Nat.reduceEqDiff, Nat.reduceLT, Nat.reduceLeDiff, Nat.reduceAdd, Nat.reduceMul, Nat.reduceSub, not_true_eq_false, not_false_eq_true, and_true, true_and, and_false, false_and, or_true, true_or, or_false, false_or, Nat.lt_irrefl, Nat.le_refl, Nat.add_zero, Bool.false_eq_true, ↓pu_gI, nd_le, nd_leT, nd_lt, nd_ltT, nd_eq, nd_eqT, h.e6, e1, t.e6, e2, kf, t2.1.2.2.1]
      · simp (disch := omega) only [Tr_readKin_j43, pl_0, pl_1, pl_2, pl_3, pl_4, pl_5, pl_6, pl_7, pl_8, pl_9, pl_10, pl_11, pl_12, pl_13, pl_14, pl_15, pl_16, pl_17, pl_18, pl_19, pl_20, pl_21, pl_30, pl_40, pl_50, pl_51, pl_60, pl_70, pl_71, pl_99, pl_100, pl_160, pl_240, pl_256, pl_300, pl_999, pl_1000, pl_1280, pl_9999, pl_10000, pu_neg, pu_nn, pu_le, pu_lt, pu_eq, pu_cl, pu_in, pu_g, ↓pu_let, ↓pu_bind, pu_m1, pu_add, pu_mul, Nat.not_lt_zero, if_false, if_true, Nat.zero_le, pu_d2, pu_d100, pu_em1, ↓reduceIte, Nat.reduceEqDiff, Nat.reduceLT, Nat.reduceLeDiff, Nat.reduceAdd, Nat.reduceMul, Nat.reduceSub, not_true_eq_false, not_false_eq_true, and_true, true_and, and_false, false_and, or_true, true_or, or_false, false_or, Nat.lt_irrefl, Nat.le_refl, Nat.add_zero, Bool.false_eq_true, ↓pu_gI, nd_le, nd_leT, nd_lt, nd_ltT, nd_eq, nd_eqT, h.e6, e1, t.e6, e2, kf, t2.1.2.2.1]
    | inr vq =>
      obtain ⟨b, q2⟩ := vq
      obtain ⟨ρ, e2, t2, tn⟩ := R2.2 b q2 d
      have r2 := rd_r r.2.1 d
      have hb : b < T 0 6 := of_decide_eq_true r2.2.2.1
      have e4 := rd_and_r eo2 d
      by_cases y : b = m
      · subst y
        rw [decide_eq_false (fun w => w rfl), if_neg (by decide)] at e4
        have kf := tr_fail_n (nI (q + 1)) t2
        have t3 := t2.ft (nI (q + 1))
        refine RI.l (ns_2l (by decide) e e4) ?_ t3
        simp (disch := omega) only [Tr_readKin_j43, pl_0, pl_1, pl_2, pl_3, pl_4, pl_5, pl_6, pl_7, pl_8, pl_9, pl_10, pl_11, pl_12, pl_13, pl_14, pl_15, pl_16, pl_17, pl_18, pl_19, pl_20, pl_21, pl_30, pl_40, pl_50, pl_51, pl_60, pl_70, pl_71, pl_99, pl_100, pl_160, pl_240, pl_256, pl_300, pl_999, pl_1000, pl_1280, pl_9999, pl_10000, pu_neg, pu_nn, pu_le, pu_lt, pu_eq, pu_cl, pu_in, pu_g, ↓pu_let, ↓pu_bind, pu_m1, pu_add, pu_mul, Nat.not_lt_zero, if_false, if_true, Nat.zero_le, pu_d2, pu_d100, pu_em1, ↓reduceIte, Nat.reduceEqDiff, Nat.reduceLT, Nat.reduceLeDiff, Nat.reduceAdd, Nat.reduceMul, Nat.reduceSub, not_true_eq_false, not_false_eq_true, and_true, true_and, and_false, false_and, or_true, true_or, or_false, false_or, Nat.lt_irrefl, Nat.le_refl, Nat.add_zero, Bool.false_eq_true, ↓pu_gI, nd_le, nd_leT, nd_lt, nd_ltT, nd_eq, nd_eqT, h.e6, e1, t.e6, e2, tn, kf, t3.1.2.2.1]
      · rw [decide_eq_true y, if_pos rfl] at e4
        obtain ⟨ν, e3, u⟩ := is_join t2.2.2.1 hI hm hb (nI 1)
        rw [dec1] at u
        have y2 : ¬ m = b := fun w => y w.symm
        refine RI.r (ns_2 rfl e e4) ?_ (t2.isl u)
        simp (disch := omega) only [Tr_readKin_j43, pl_0, pl_1, pl_2, pl_3, pl_4, pl_5, pl_6, pl_7, pl_8, pl_9, pl_10, pl_11, pl_12, pl_13, pl_14, pl_15, pl_16, pl_17, pl_18, pl_19, pl_20, pl_21, pl_30, pl_40, pl_50, pl_51, pl_60, pl_70, pl_71, pl_99, pl_100, pl_160, pl_240, pl_256, pl_300, pl_999, pl_1000, pl_1280, pl_9999, pl_10000, pu_neg, pu_nn, pu_le, pu_lt, pu_eq, pu_cl, pu_in, pu_g, ↓pu_let, ↓pu_bind, pu_m1, pu_add, pu_mul, Nat.not_lt_zero, if_false, if_true, Nat.zero_le, pu_d2, pu_d100, pu_em1, ↓reduceIte, Nat.reduceEqDiff, Nat.reduceLT, Nat.reduceLeDiff, Nat.reduceAdd, Nat.reduceMul, Nat.reduceSub, not_true_eq_false, not_false_eq_true, and_true, true_and, and_false, false_and, or_true, true_or, or_false, false_or, Nat.lt_irrefl, Nat.le_refl, Nat.add_zero, Bool.false_eq_true, ↓pu_gI, nd_le, nd_leT, nd_lt, nd_ltT, nd_eq, nd_eqT, h.e6, e1, t.e6, e2, t2.1.2.2.1, e3]
theorem tr_maker_full (h : TxC g N σ a p (-nI 1) c T) (hI : IslI T) (h8 : T 0 6 = 8) {s : Nat} (hs : s < 2147483648) : ∃ τ q, Tr_readNewMaker (nI s) a = some ((), τ) ∧ TxC g N σ τ q (nI s) c T := by
  have kl := is_isFull h.2.2.1 hI
  rw [if_pos h8] at kl
  have kf := tr_fail_n (nI s) h
  have t := h.ft (nI s)
  have e1 := tr_num_o t hs (nI 0) (nI 6)
  have e2 := tr_num_o t hs (nI 0) (nI 9)
  have e3 := tr_num_o t hs (nI 0) (nI 99)
  refine ⟨_, p, ?_, t⟩
  unfold Tr_readNewMaker
  simp (disch := omega) only [Tr_readNewMaker_j15, pl_0, pl_1, pl_2, pl_3, pl_4, pl_5, pl_6, pl_7, pl_8, pl_9, pl_10, pl_11, pl_12, pl_13, pl_14, pl_15, pl_16, pl_17, pl_18, pl_19, pl_20, pl_21, pl_30, pl_40, pl_50, pl_51, pl_60, pl_70, pl_71, pl_99, pl_100, pl_160, pl_240, pl_256, pl_300, pl_999, pl_1000, pl_1280, pl_9999, pl_10000, pu_neg, pu_nn, pu_le, pu_lt, pu_eq, pu_cl, pu_in, pu_g, ↓pu_let, ↓pu_bind, pu_m1, pu_add, pu_mul, Nat.not_lt_zero, if_false, if_true, Nat.zero_le, pu_d2, pu_d100, pu_em1, ↓reduceIte, Nat.reduceEqDiff, Nat.reduceLT, Nat.reduceLeDiff, Nat.reduceAdd, Nat.reduceMul, Nat.reduceSub, not_true_eq_false, not_false_eq_true, and_true, true_and, and_false, false_and, or_true, true_or, or_false, false_or, Nat.lt_irrefl, Nat.le_refl, Nat.add_zero, Bool.false_eq_true, ↓pu_gI, nd_le, nd_leT, nd_lt, nd_ltT, nd_eq, nd_eqT, kl, kf, e1, e2, e3, t.1.2.2.1]
theorem tr_maker (h : TxC g N σ a p (-nI 1) c T) (hp : p ≤ N) (hI : IslI T) (h8 : T 0 6 < 8) (x : Int32) : RI g N σ c T (nsS g N T 1 p) (Tr_readNewMaker x a) := by
  have hN := h.2.2.2.2
  have kl := is_isFull h.2.2.1 hI
  rw [if_neg (by omega)] at kl
  have R := tr_num h hp (ok := okS T 1 0 0) (fun v s hv => wi_0 (hi := 6) s (by omega) hv)
  unfold Tr_readNewMaker
  cases e : rdS g N (okS T 1 0 0) p with
  | inl k =>
    obtain ⟨hk, τ, q, e1, t⟩ := R.1 k e
    have e2 := tr_num_o t (by omega) (nI 0) (nI 9)
    have e3 := tr_num_o t (by omega) (nI 0) (nI 99)
    refine RI.l (ns_l e) ?_ t
    simp (disch := omega) only [Tr_readNewMaker_j15, pl_0, pl_1, pl_2, pl_3, pl_4, pl_5, pl_6, pl_7, pl_8, pl_9, pl_10, pl_11, pl_12, pl_13, pl_14, pl_15, pl_16, pl_17, pl_18, pl_19, pl_20, pl_21, pl_30, pl_40, pl_50, pl_51, pl_60, pl_70, pl_71, pl_99, pl_100, pl_160, pl_240, pl_256, pl_300, pl_999, pl_1000, pl_1280, pl_9999, pl_10000, pu_neg, pu_nn, pu_le, pu_lt, pu_eq, pu_cl, pu_in, pu_g, ↓pu_let, ↓pu_bind, pu_m1, pu_add, pu_mul, Nat.not_lt_zero, if_false, if_true, Nat.zero_le, pu_d2, pu_d100, pu_em1, ↓reduceIte, Nat.reduceEqDiff, Nat.reduceLT, Nat.reduceLeDiff, Nat.reduceAdd, Nat.reduceMul, Nat.reduceSub, not_true_eq_false, not_false_eq_true, and_true, true_and, and_false, false_and, or_true, true_or, or_false, false_or, Nat.lt_irrefl, Nat.le_refl, Nat.add_zero, Bool.false_eq_true, ↓pu_gI, nd_le, nd_leT, nd_lt, nd_ltT, nd_eq, nd_eqT, kl, e1, e2, e3, t.1.2.2.1]
  | inr vq =>
    obtain ⟨m, q⟩ := vq
    obtain ⟨τ, e1, t, _⟩ := R.2 m q e
    have r := rd_r hp e
    have R2 := tr_num t r.2.1 (ok := okS T 1 1 m) (fun v s hv => wi_0 (hi := 9) s (by omega) hv)
    cases d : rdS g N (okS T 1 1 m) q with
    | inl k =>
      obtain ⟨hk, ρ, q2, e2, t2⟩ := R2.1 k d
      have e3 := tr_num_o t2 (by omega) (nI 0) (nI 99)
      refine RI.l (ns_2l (by decide) e d) ?_ t2
      simp (disch := omega) only [Tr_readNewMaker_j15, pl_0, pl_1, pl_2, pl_3, pl_4, pl_5, pl_6, pl_7, pl_8, pl_9, pl_10, pl_11, pl_12, pl_13, pl_14, pl_15, pl_16, pl_17, pl_18, pl_19, pl_20, pl_21, pl_30, pl_40, pl_50, pl_51, pl_60, pl_70, pl_71, pl_99, pl_100, pl_160, pl_240, pl_256, pl_300, pl_999, pl_1000, pl_1280, pl_9999, pl_10000, pu_neg, pu_nn, pu_le, pu_lt, pu_eq, pu_cl, pu_in, pu_g, ↓pu_let, ↓pu_bind, pu_m1, pu_add, pu_mul, Nat.not_lt_zero, if_false, if_true, Nat.zero_le, pu_d2, pu_d100, pu_em1, ↓reduceIte, Nat.reduceEqDiff, Nat.reduceLT, Nat.reduceLeDiff, Nat.reduceAdd, Nat.reduceMul, Nat.reduceSub, not_true_eq_false, not_false_eq_true, and_true, true_and, and_false, false_and, or_true, true_or, or_false, false_or, Nat.lt_irrefl, Nat.le_refl, Nat.add_zero, Bool.false_eq_true, ↓pu_gI, nd_le, nd_leT, nd_lt, nd_ltT, nd_eq, nd_eqT, kl, e1, e2, e3, t2.1.2.2.1]
    | inr vq =>
      obtain ⟨b, q2⟩ := vq
      obtain ⟨ρ, e2, t2, _⟩ := R2.2 b q2 d
      have r2 := rd_r r.2.1 d
      have R3 := tr_num t2 r2.2.1 (ok := okS T 1 2 m) (fun v s hv => wi_0 (hi := 99) s (by omega) hv)
      cases d3 : rdS g N (okS T 1 2 m) q2 with
      | inl k =>
        obtain ⟨hk, ν, q3, e3, t3⟩ := R3.1 k d3
        refine RI.l (ns_3l rfl e d d3) ?_ t3
        simp (disch := omega) only [Tr_readNewMaker_j15, pl_0, pl_1, pl_2, pl_3, pl_4, pl_5, pl_6, pl_7, pl_8, pl_9, pl_10, pl_11, pl_12, pl_13, pl_14, pl_15, pl_16, pl_17, pl_18, pl_19, pl_20, pl_21, pl_30, pl_40, pl_50, pl_51, pl_60, pl_70, pl_71, pl_99, pl_100, pl_160, pl_240, pl_256, pl_300, pl_999, pl_1000, pl_1280, pl_9999, pl_10000, pu_neg, pu_nn, pu_le, pu_lt, pu_eq, pu_cl, pu_in, pu_g, ↓pu_let, ↓pu_bind, pu_m1, pu_add, pu_mul, Nat.not_lt_zero, if_false, if_true, Nat.zero_le, pu_d2, pu_d100, pu_em1, ↓reduceIte, Nat.reduceEqDiff, Nat.reduceLT, Nat.reduceLeDiff, Nat.reduceAdd, Nat.reduceMul, Nat.reduceSub, not_true_eq_false, not_false_eq_true, and_true, true_and, and_false, false_and, or_true, true_or, or_false, false_or, Nat.lt_irrefl, Nat.le_refl, Nat.add_zero, Bool.false_eq_true, ↓pu_gI, nd_le, nd_leT, nd_lt, nd_ltT, nd_eq, nd_eqT, kl, e1, e2, e3, t3.1.2.2.1]
      | inr vq =>
        obtain ⟨w, q3⟩ := vq
        obtain ⟨ν, e3, t3, _⟩ := R3.2 w q3 d3
        obtain ⟨μ, e4, u⟩ := is_addMaker t3.2.2.1 hI m b w h8
        refine RI.r (ns_3 rfl e d d3) ?_ (t3.isl u)
        simp (disch := omega) only [Tr_readNewMaker_j15, pl_0, pl_1, pl_2, pl_3, pl_4, pl_5, pl_6, pl_7, pl_8, pl_9, pl_10, pl_11, pl_12, pl_13, pl_14, pl_15, pl_16, pl_17, pl_18, pl_19, pl_20, pl_21, pl_30, pl_40, pl_50, pl_51, pl_60, pl_70, pl_71, pl_99, pl_100, pl_160, pl_240, pl_256, pl_300, pl_999, pl_1000, pl_1280, pl_9999, pl_10000, pu_neg, pu_nn, pu_le, pu_lt, pu_eq, pu_cl, pu_in, pu_g, ↓pu_let, ↓pu_bind, pu_m1, pu_add, pu_mul, Nat.not_lt_zero, if_false, if_true, Nat.zero_le, pu_d2, pu_d100, pu_em1, ↓reduceIte, Nat.reduceEqDiff, Nat.reduceLT, Nat.reduceLeDiff, Nat.reduceAdd, Nat.reduceMul, Nat.reduceSub, not_true_eq_false, not_false_eq_true, and_true, true_and, and_false, false_and, or_true, true_or, or_false, false_or, Nat.lt_irrefl, Nat.le_refl, Nat.add_zero, Bool.false_eq_true, ↓pu_gI, nd_le, nd_leT, nd_lt, nd_ltT, nd_eq, nd_eqT, kl, e1, e2, e3, t3.1.2.2.1, e4]
end RDG
