/-! the class's reader: signs and numbers -/
theorem pl_32 : (32 : Int32) = nI 32 := Eq.trans rfl rfl
theorem pl_48 : (48 : Int32) = nI 48 := Eq.trans rfl rfl
theorem pl_57 : (57 : Int32) = nI 57 := Eq.trans rfl rfl
theorem pl_59 : (59 : Int32) = nI 59 := Eq.trans rfl rfl
/-- the reader's state: N signs g, at p, fault f, c items, the island told so far -/
def TxC (g : Nat → Int32) (N : Nat) (σ a : nm_St) (p : Nat) (f : Int32) (c : Nat) (T : is_T) : Prop := (a.1 42 2 = nI N ∧ a.1 42 3 = nI p ∧ a.1 42 6 = f ∧ a.1 42 5 = nI c) ∧ (∀ i, i < N → a.1 50 i = g i) ∧ IslR a 43 T ∧ Fr [0] σ a ∧ N ≤ 160
theorem IslR.n42 {a : nm_St} {T : is_T} (h : IslR a 43 T) (j : Nat) (x : Int32) : IslR (nm_pI a 42 j x) 43 T := ⟨fun r k h1 h2 hk => by rw [pI_ne _ _ (by omega)]; exact h.1 r k h1 h2 hk, fun k h1 h2 => by rw [pI_ne _ _ (by omega)]; exact h.2 k h1 h2⟩
section RDC
variable {g : Nat → Int32} {N : Nat} {σ a : nm_St} {p c : Nat} {f : Int32} {T : is_T}
theorem TxC.to (h : TxC g N σ a p f c T) (q : Nat) : TxC g N σ (nm_pI a 42 3 (nI q)) q f c T := ⟨⟨by rw [pI_ne _ _ (by omega)]; exact h.1.1, pI_eq _ _ _ _, by rw [pI_ne _ _ (by omega)]; exact h.1.2.2.1, by rw [pI_ne _ _ (by omega)]; exact h.1.2.2.2⟩, fun i hi => by rw [pI_ne _ _ (by omega)]; exact h.2.1 i hi, h.2.2.1.n42 _ _, h.2.2.2.1.pI _ rfl, h.2.2.2.2⟩
theorem TxC.ft (h : TxC g N σ a p f c T) (q : Int32) : TxC g N σ (nm_pI a 42 6 q) p q c T := ⟨⟨by rw [pI_ne _ _ (by omega)]; exact h.1.1, by rw [pI_ne _ _ (by omega)]; exact h.1.2.1, pI_eq _ _ _ _, by rw [pI_ne _ _ (by omega)]; exact h.1.2.2.2⟩, fun i hi => by rw [pI_ne _ _ (by omega)]; exact h.2.1 i hi, h.2.2.1.n42 _ _, h.2.2.2.1.pI _ rfl, h.2.2.2.2⟩
theorem TxC.nu (h : TxC g N σ a p f c T) (q : Int32) : TxC g N σ (nm_pI a 42 4 q) p f c T := ⟨⟨by rw [pI_ne _ _ (by omega)]; exact h.1.1, by rw [pI_ne _ _ (by omega)]; exact h.1.2.1, by rw [pI_ne _ _ (by omega)]; exact h.1.2.2.1, by rw [pI_ne _ _ (by omega)]; exact h.1.2.2.2⟩, fun i hi => by rw [pI_ne _ _ (by omega)]; exact h.2.1 i hi, h.2.2.1.n42 _ _, h.2.2.2.1.pI _ rfl, h.2.2.2.2⟩
theorem TxC.ct (h : TxC g N σ a p f c T) (q : Nat) : TxC g N σ (nm_pI a 42 5 (nI q)) p f q T := ⟨⟨by rw [pI_ne _ _ (by omega)]; exact h.1.1, by rw [pI_ne _ _ (by omega)]; exact h.1.2.1, by rw [pI_ne _ _ (by omega)]; exact h.1.2.2.1, pI_eq _ _ _ _⟩, fun i hi => by rw [pI_ne _ _ (by omega)]; exact h.2.1 i hi, h.2.2.1.n42 _ _, h.2.2.2.1.pI _ rfl, h.2.2.2.2⟩
theorem TxC.isl {V : is_T} {b : nm_St} (h : TxC g N σ a p f c T) (u : IslU a 43 b V) : TxC g N σ b p f c V := ⟨⟨by rw [u.2.1 42 (by omega)]; exact h.1.1, by rw [u.2.1 42 (by omega)]; exact h.1.2.1, by rw [u.2.1 42 (by omega)]; exact h.1.2.2.1, by rw [u.2.1 42 (by omega)]; exact h.1.2.2.2⟩, fun i hi => by rw [u.2.1 50 (by omega)]; exact h.2.1 i hi, u.1, h.2.2.2.1.tr u.2.fr43, h.2.2.2.2⟩
theorem tr_fail_n (x : Int32) (h : TxC g N σ a p (-nI 1) c T) : Tr_fail x a = some ((), nm_pI a 42 6 x) := by
  unfold Tr_fail
  simp (disch := omega) only [pl_0, pl_1, pl_2, pl_3, pl_4, pl_5, pl_6, pl_7, pl_8, pl_9, pl_10, pl_11, pl_12, pl_13, pl_14, pl_15, pl_16, pl_17, pl_18, pl_19, pl_20, pl_21, pl_30, pl_40, pl_50, pl_51, pl_60, pl_70, pl_71, pl_99, pl_100, pl_160, pl_240, pl_256, pl_300, pl_999, pl_1000, pl_1280, pl_9999, pl_10000, pu_neg, pu_nn, pu_le, pu_lt, pu_eq, pu_cl, pu_in, pu_g, ↓pu_let, ↓pu_bind, pu_m1, pu_add, pu_mul, Nat.not_lt_zero, if_false, if_true, Nat.zero_le, pu_d2, pu_d100, pu_em1, ↓reduceIte, Nat.reduceEqDiff, Nat.reduceLT, Nat.reduceLeDiff, Nat.reduceAdd, Nat.reduceMul, Nat.reduceSub, not_true_eq_false, not_false_eq_true, and_true, true_and, and_false, false_and, or_true, true_or, or_false, false_or, Nat.lt_irrefl, Nat.le_refl, Nat.add_zero, Bool.false_eq_true, ↓pu_gI, nd_le, nd_leT, nd_lt, nd_ltT, nd_eq, nd_eqT, h.1.2.2.1]
theorem tr_fail_o (x : Int32) {k : Nat} (h : TxC g N σ a p (nI k) c T) (hk : k < 2147483648) : Tr_fail x a = some ((), a) := by
  unfold Tr_fail
  simp (disch := omega) only [pl_0, pl_1, pl_2, pl_3, pl_4, pl_5, pl_6, pl_7, pl_8, pl_9, pl_10, pl_11, pl_12, pl_13, pl_14, pl_15, pl_16, pl_17, pl_18, pl_19, pl_20, pl_21, pl_30, pl_40, pl_50, pl_51, pl_60, pl_70, pl_71, pl_99, pl_100, pl_160, pl_240, pl_256, pl_300, pl_999, pl_1000, pl_1280, pl_9999, pl_10000, pu_neg, pu_nn, pu_le, pu_lt, pu_eq, pu_cl, pu_in, pu_g, ↓pu_let, ↓pu_bind, pu_m1, pu_add, pu_mul, Nat.not_lt_zero, if_false, if_true, Nat.zero_le, pu_d2, pu_d100, pu_em1, ↓reduceIte, Nat.reduceEqDiff, Nat.reduceLT, Nat.reduceLeDiff, Nat.reduceAdd, Nat.reduceMul, Nat.reduceSub, not_true_eq_false, not_false_eq_true, and_true, true_and, and_false, false_and, or_true, true_or, or_false, false_or, Nat.lt_irrefl, Nat.le_refl, Nat.add_zero, Bool.false_eq_true, ↓pu_gI, nd_le, nd_leT, nd_lt, nd_ltT, nd_eq, nd_eqT, h.1.2.2.1]
theorem dg_un {q : Nat} (h : dgB g N q = true) : q < N ∧ 48 ≤ un (g q) ∧ un (g q) ≤ 57 := by
  unfold dgB at h
  simp only [Bool.and_eq_true, decide_eq_true_eq] at h
  exact h
theorem dg_no {q : Nat} (h : ¬ (q < N ∧ 48 ≤ un (g q) ∧ un (g q) ≤ 57)) : dgB g N q = false := by
  cases e : dgB g N q with
  | false => rfl
  | true => exact absurd (dg_un e) h
theorem dg_sub {k : Nat} (h : 48 ≤ k) : nI k - nI 48 = nI (k - 48) := by
  obtain ⟨j, rfl⟩ : ∃ j, k = j + 48 := ⟨k - 48, by omega⟩
  rw [← pu_add, Int32.add_sub_cancel, Nat.add_sub_cancel]
theorem tr_digit (h : TxC g N σ a p f c T) {q : Nat} (hq : q < 2147483648) : Tr_digitAt (nI q) a = some (if dgB g N q then nI (un (g q) - 48) else -nI 1, a) := by
  have hN := h.2.2.2.2
  by_cases z : q < N
  · have e := h.2.1 q z
    by_cases y : un (g q) < 2147483648
    · by_cases y1 : un (g q) < 48
      · rw [dg_no (by omega)]
        rw [rg_t (g q)] at e
        unfold Tr_digitAt
        simp (disch := omega) only [Tr_digitAt_j22, pl_48, pl_57, pl_0, pl_1, pl_2, pl_3, pl_4, pl_5, pl_6, pl_7, pl_8, pl_9, pl_10, pl_11, pl_12, pl_13, pl_14, pl_15, pl_16, pl_17, pl_18, pl_19, pl_20, pl_21, pl_30, pl_40, pl_50, pl_51, pl_60, pl_70, pl_71, pl_99, pl_100, pl_160, pl_240, pl_256, pl_300, pl_999, pl_1000, pl_1280, pl_9999, pl_10000, pu_neg, pu_nn, pu_le, pu_lt, pu_eq, pu_cl, pu_in, pu_g, ↓pu_let, ↓pu_bind, pu_m1, pu_add, pu_mul, Nat.not_lt_zero, if_false, if_true, Nat.zero_le, pu_d2, pu_d100, pu_em1, ↓reduceIte, Nat.reduceEqDiff, Nat.reduceLT, Nat.reduceLeDiff, Nat.reduceAdd, Nat.reduceMul, Nat.reduceSub, not_true_eq_false, not_false_eq_true, and_true, true_and, and_false, false_and, or_true, true_or, or_false, false_or, Nat.lt_irrefl, Nat.le_refl, Nat.add_zero, Bool.false_eq_true, ↓pu_gI, nd_le, nd_leT, nd_lt, nd_ltT, nd_eq, nd_eqT, h.1.1, e]
      · by_cases y2 : 57 < un (g q)
        · rw [dg_no (by omega)]
          rw [rg_t (g q)] at e
          unfold Tr_digitAt
          simp (disch := omega) only [Tr_digitAt_j22, pl_48, pl_57, pl_0, pl_1, pl_2, pl_3, pl_4, pl_5, pl_6, pl_7, pl_8, pl_9, pl_10, pl_11, pl_12, pl_13, pl_14, pl_15, pl_16, pl_17, pl_18, pl_19, pl_20, pl_21, pl_30, pl_40, pl_50, pl_51, pl_60, pl_70, pl_71, pl_99, pl_100, pl_160, pl_240, pl_256, pl_300, pl_999, pl_1000, pl_1280, pl_9999, pl_10000, pu_neg, pu_nn, pu_le, pu_lt, pu_eq, pu_cl, pu_in, pu_g, ↓pu_let, ↓pu_bind, pu_m1, pu_add, pu_mul, Nat.not_lt_zero, if_false, if_true, Nat.zero_le, pu_d2, pu_d100, pu_em1, ↓reduceIte, Nat.reduceEqDiff, Nat.reduceLT, Nat.reduceLeDiff, Nat.reduceAdd, Nat.reduceMul, Nat.reduceSub, not_true_eq_false, not_false_eq_true, and_true, true_and, and_false, false_and, or_true, true_or, or_false, false_or, Nat.lt_irrefl, Nat.le_refl, Nat.add_zero, Bool.false_eq_true, ↓pu_gI, nd_le, nd_leT, nd_lt, nd_ltT, nd_eq, nd_eqT, h.1.1, e]
        · have d : dgB g N q = true := by
            unfold dgB
            rw [decide_eq_true z, decide_eq_true (by omega), decide_eq_true (by omega)]; rfl
          rw [d]
          rw [rg_t (g q)] at e
          unfold Tr_digitAt
          simp (disch := omega) only [Tr_digitAt_j22, pl_48, pl_57, pl_0, pl_1, pl_2, pl_3, pl_4, pl_5, pl_6, pl_7, pl_8, pl_9, pl_10, pl_11, pl_12, pl_13, pl_14, pl_15, pl_16, pl_17, pl_18, pl_19, pl_20, pl_21, pl_30, pl_40, pl_50, pl_51, pl_60, pl_70, pl_71, pl_99, pl_100, pl_160, pl_240, pl_256, pl_300, pl_999, pl_1000, pl_1280, pl_9999, pl_10000, pu_neg, pu_nn, pu_le, pu_lt, pu_eq, pu_cl, pu_in, pu_g, ↓pu_let, ↓pu_bind, pu_m1, pu_add, pu_mul, Nat.not_lt_zero, if_false, if_true, Nat.zero_le, pu_d2, pu_d100, pu_em1, ↓reduceIte, Nat.reduceEqDiff, Nat.reduceLT, Nat.reduceLeDiff, Nat.reduceAdd, Nat.reduceMul, Nat.reduceSub, not_true_eq_false, not_false_eq_true, and_true, true_and, and_false, false_and, or_true, true_or, or_false, false_or, Nat.lt_irrefl, Nat.le_refl, Nat.add_zero, Bool.false_eq_true, ↓pu_gI, nd_le, nd_leT, nd_lt, nd_ltT, nd_eq, nd_eqT, h.1.1, e, dg_sub]
    · have hx := un_neg y
      rw [dg_no (by omega)]
      unfold Tr_digitAt
      simp (disch := omega) only [Tr_digitAt_j22, pl_48, pl_57, pl_0, pl_1, pl_2, pl_3, pl_4, pl_5, pl_6, pl_7, pl_8, pl_9, pl_10, pl_11, pl_12, pl_13, pl_14, pl_15, pl_16, pl_17, pl_18, pl_19, pl_20, pl_21, pl_30, pl_40, pl_50, pl_51, pl_60, pl_70, pl_71, pl_99, pl_100, pl_160, pl_240, pl_256, pl_300, pl_999, pl_1000, pl_1280, pl_9999, pl_10000, pu_neg, pu_nn, pu_le, pu_lt, pu_eq, pu_cl, pu_in, pu_g, ↓pu_let, ↓pu_bind, pu_m1, pu_add, pu_mul, Nat.not_lt_zero, if_false, if_true, Nat.zero_le, pu_d2, pu_d100, pu_em1, ↓reduceIte, Nat.reduceEqDiff, Nat.reduceLT, Nat.reduceLeDiff, Nat.reduceAdd, Nat.reduceMul, Nat.reduceSub, not_true_eq_false, not_false_eq_true, and_true, true_and, and_false, false_and, or_true, true_or, or_false, false_or, Nat.lt_irrefl, Nat.le_refl, Nat.add_zero, Bool.false_eq_true, ↓pu_gI, nd_le, nd_leT, nd_lt, nd_ltT, nd_eq, nd_eqT, h.1.1, e, ngl hx, nge hx, ngle hx, nggt hx, ngne hx]
  · rw [dg_no (by omega)]
    unfold Tr_digitAt Tr_digitAt_j21
    have h1 : (-1 : Int32) < nI 48 := by decide +kernel
    simp (disch := omega) only [Tr_digitAt_j22, pl_48, pl_57, pl_0, pl_1, pl_2, pl_3, pl_4, pl_5, pl_6, pl_7, pl_8, pl_9, pl_10, pl_11, pl_12, pl_13, pl_14, pl_15, pl_16, pl_17, pl_18, pl_19, pl_20, pl_21, pl_30, pl_40, pl_50, pl_51, pl_60, pl_70, pl_71, pl_99, pl_100, pl_160, pl_240, pl_256, pl_300, pl_999, pl_1000, pl_1280, pl_9999, pl_10000, pu_neg, pu_nn, pu_le, pu_lt, pu_eq, pu_cl, pu_in, pu_g, ↓pu_let, ↓pu_bind, pu_m1, pu_add, pu_mul, Nat.not_lt_zero, if_false, if_true, Nat.zero_le, pu_d2, pu_d100, pu_em1, ↓reduceIte, Nat.reduceEqDiff, Nat.reduceLT, Nat.reduceLeDiff, Nat.reduceAdd, Nat.reduceMul, Nat.reduceSub, not_true_eq_false, not_false_eq_true, and_true, true_and, and_false, false_and, or_true, true_or, or_false, false_or, Nat.lt_irrefl, Nat.le_refl, Nat.add_zero, Bool.false_eq_true, ↓pu_gI, nd_le, nd_leT, nd_lt, nd_ltT, nd_eq, nd_eqT, h.1.1]
    first | done | exact if_pos h1
theorem tr_has (h : TxC g N σ a p f c T) {q s : Nat} (hq : q < 2147483648) : Tr_hasSign (nI q) (nI s) a = some (nI (if q < N ∧ g q = nI s then 1 else 0), a) := by
  have hN := h.2.2.2.2
  by_cases z : q < N
  · have e := h.2.1 q z
    by_cases y : g q = nI s
    · rw [if_pos ⟨z, y⟩]
      rw [y] at e
      unfold Tr_hasSign
      simp (disch := omega) only [pl_0, pl_1, pl_2, pl_3, pl_4, pl_5, pl_6, pl_7, pl_8, pl_9, pl_10, pl_11, pl_12, pl_13, pl_14, pl_15, pl_16, pl_17, pl_18, pl_19, pl_20, pl_21, pl_30, pl_40, pl_50, pl_51, pl_60, pl_70, pl_71, pl_99, pl_100, pl_160, pl_240, pl_256, pl_300, pl_999, pl_1000, pl_1280, pl_9999, pl_10000, pu_neg, pu_nn, pu_le, pu_lt, pu_eq, pu_cl, pu_in, pu_g, ↓pu_let, ↓pu_bind, pu_m1, pu_add, pu_mul, Nat.not_lt_zero, if_false, if_true, Nat.zero_le, pu_d2, pu_d100, pu_em1, ↓reduceIte, Nat.reduceEqDiff, Nat.reduceLT, Nat.reduceLeDiff, Nat.reduceAdd, Nat.reduceMul, Nat.reduceSub, not_true_eq_false, not_false_eq_true, and_true, true_and, and_false, false_and, or_true, true_or, or_false, false_or, Nat.lt_irrefl, Nat.le_refl, Nat.add_zero, Bool.false_eq_true, ↓pu_gI, nd_le, nd_leT, nd_lt, nd_ltT, nd_eq, nd_eqT, h.1.1, e]
    · rw [if_neg (fun w => y w.2)]
      unfold Tr_hasSign
      simp (disch := omega) only [pl_0, pl_1, pl_2, pl_3, pl_4, pl_5, pl_6, pl_7, pl_8, pl_9, pl_10, pl_11, pl_12, pl_13, pl_14, pl_15, pl_16, pl_17, pl_18, pl_19, pl_20, pl_21, pl_30, pl_40, pl_50, pl_51, pl_60, pl_70, pl_71, pl_99, pl_100, pl_160, pl_240, pl_256, pl_300, pl_999, pl_1000, pl_1280, pl_9999, pl_10000, pu_neg, pu_nn, pu_le, pu_lt, pu_eq, pu_cl, pu_in, pu_g, ↓pu_let, ↓pu_bind, pu_m1, pu_add, pu_mul, Nat.not_lt_zero, if_false, if_true, Nat.zero_le, pu_d2, pu_d100, pu_em1, ↓reduceIte, Nat.reduceEqDiff, Nat.reduceLT, Nat.reduceLeDiff, Nat.reduceAdd, Nat.reduceMul, Nat.reduceSub, not_true_eq_false, not_false_eq_true, and_true, true_and, and_false, false_and, or_true, true_or, or_false, false_or, Nat.lt_irrefl, Nat.le_refl, Nat.add_zero, Bool.false_eq_true, ↓pu_gI, nd_le, nd_leT, nd_lt, nd_ltT, nd_eq, nd_eqT, h.1.1, e, y]
  · rw [if_neg (fun w => z w.1)]
    unfold Tr_hasSign
    simp (disch := omega) only [pl_0, pl_1, pl_2, pl_3, pl_4, pl_5, pl_6, pl_7, pl_8, pl_9, pl_10, pl_11, pl_12, pl_13, pl_14, pl_15, pl_16, pl_17, pl_18, pl_19, pl_20, pl_21, pl_30, pl_40, pl_50, pl_51, pl_60, pl_70, pl_71, pl_99, pl_100, pl_160, pl_240, pl_256, pl_300, pl_999, pl_1000, pl_1280, pl_9999, pl_10000, pu_neg, pu_nn, pu_le, pu_lt, pu_eq, pu_cl, pu_in, pu_g, ↓pu_let, ↓pu_bind, pu_m1, pu_add, pu_mul, Nat.not_lt_zero, if_false, if_true, Nat.zero_le, pu_d2, pu_d100, pu_em1, ↓reduceIte, Nat.reduceEqDiff, Nat.reduceLT, Nat.reduceLeDiff, Nat.reduceAdd, Nat.reduceMul, Nat.reduceSub, not_true_eq_false, not_false_eq_true, and_true, true_and, and_false, false_and, or_true, true_or, or_false, false_or, Nat.lt_irrefl, Nat.le_refl, Nat.add_zero, Bool.false_eq_true, ↓pu_gI, nd_le, nd_leT, nd_lt, nd_ltT, nd_eq, nd_eqT, h.1.1]
theorem tr_sign_t (h : TxC g N σ a p (-nI 1) c T) {s : Nat} (hp : p ≤ N) (z : p < N ∧ g p = nI s) : Tr_readSign (nI s) a = some ((), nm_pI a 42 3 (nI (p + 1))) := by
  have hN := h.2.2.2.2
  have k := tr_has h (q := p) (s := s) (by omega)
  rw [if_pos z] at k
  unfold Tr_readSign
  simp (disch := omega) only [pl_0, pl_1, pl_2, pl_3, pl_4, pl_5, pl_6, pl_7, pl_8, pl_9, pl_10, pl_11, pl_12, pl_13, pl_14, pl_15, pl_16, pl_17, pl_18, pl_19, pl_20, pl_21, pl_30, pl_40, pl_50, pl_51, pl_60, pl_70, pl_71, pl_99, pl_100, pl_160, pl_240, pl_256, pl_300, pl_999, pl_1000, pl_1280, pl_9999, pl_10000, pu_neg, pu_nn, pu_le, pu_lt, pu_eq, pu_cl, pu_in, pu_g, ↓pu_let, ↓pu_bind, pu_m1, pu_add, pu_mul, Nat.not_lt_zero, if_false, if_true, Nat.zero_le, pu_d2, pu_d100, pu_em1, ↓reduceIte, Nat.reduceEqDiff, Nat.reduceLT, Nat.reduceLeDiff, Nat.reduceAdd, Nat.reduceMul, Nat.reduceSub, not_true_eq_false, not_false_eq_true, and_true, true_and, and_false, false_and, or_true, true_or, or_false, false_or, Nat.lt_irrefl, Nat.le_refl, Nat.add_zero, Bool.false_eq_true, ↓pu_gI, nd_le, nd_leT, nd_lt, nd_ltT, nd_eq, nd_eqT, h.1.2.2.1, h.1.2.1, k]
theorem tr_sign_f (h : TxC g N σ a p (-nI 1) c T) {s : Nat} (hp : p ≤ N) (z : ¬ (p < N ∧ g p = nI s)) : Tr_readSign (nI s) a = some ((), nm_pI a 42 6 (nI p)) := by
  have hN := h.2.2.2.2
  have k := tr_has h (q := p) (s := s) (by omega)
  rw [if_neg z] at k
  have kf := tr_fail_n (nI p) h
  unfold Tr_readSign
  simp (disch := omega) only [pl_0, pl_1, pl_2, pl_3, pl_4, pl_5, pl_6, pl_7, pl_8, pl_9, pl_10, pl_11, pl_12, pl_13, pl_14, pl_15, pl_16, pl_17, pl_18, pl_19, pl_20, pl_21, pl_30, pl_40, pl_50, pl_51, pl_60, pl_70, pl_71, pl_99, pl_100, pl_160, pl_240, pl_256, pl_300, pl_999, pl_1000, pl_1280, pl_9999, pl_10000, pu_neg, pu_nn, pu_le, pu_lt, pu_eq, pu_cl, pu_in, pu_g, ↓pu_let, ↓pu_bind, pu_m1, pu_add, pu_mul, Nat.not_lt_zero, if_false, if_true, Nat.zero_le, pu_d2, pu_d100, pu_em1, ↓reduceIte, Nat.reduceEqDiff, Nat.reduceLT, Nat.reduceLeDiff, Nat.reduceAdd, Nat.reduceMul, Nat.reduceSub, not_true_eq_false, not_false_eq_true, and_true, true_and, and_false, false_and, or_true, true_or, or_false, false_or, Nat.lt_irrefl, Nat.le_refl, Nat.add_zero, Bool.false_eq_true, ↓pu_gI, nd_le, nd_leT, nd_lt, nd_ltT, nd_eq, nd_eqT, h.1.2.2.1, h.1.2.1, k, kf]
theorem tr_sign_o (h : TxC g N σ a p f c T) {k : Nat} (hf : f = nI k) (hk : k < 2147483648) (x : Int32) : Tr_readSign x a = some ((), a) := by
  subst hf
  unfold Tr_readSign
  simp (disch := omega) only [pl_0, pl_1, pl_2, pl_3, pl_4, pl_5, pl_6, pl_7, pl_8, pl_9, pl_10, pl_11, pl_12, pl_13, pl_14, pl_15, pl_16, pl_17, pl_18, pl_19, pl_20, pl_21, pl_30, pl_40, pl_50, pl_51, pl_60, pl_70, pl_71, pl_99, pl_100, pl_160, pl_240, pl_256, pl_300, pl_999, pl_1000, pl_1280, pl_9999, pl_10000, pu_neg, pu_nn, pu_le, pu_lt, pu_eq, pu_cl, pu_in, pu_g, ↓pu_let, ↓pu_bind, pu_m1, pu_add, pu_mul, Nat.not_lt_zero, if_false, if_true, Nat.zero_le, pu_d2, pu_d100, pu_em1, ↓reduceIte, Nat.reduceEqDiff, Nat.reduceLT, Nat.reduceLeDiff, Nat.reduceAdd, Nat.reduceMul, Nat.reduceSub, not_true_eq_false, not_false_eq_true, and_true, true_and, and_false, false_and, or_true, true_or, or_false, false_or, Nat.lt_irrefl, Nat.le_refl, Nat.add_zero, Bool.false_eq_true, ↓pu_gI, nd_le, nd_leT, nd_lt, nd_ltT, nd_eq, nd_eqT, h.1.2.2.1]
theorem tr_l29 (K : Int32 → Int32 → Int32 → nm_St → Option (Int32 × nm_St)) (x1 x2 : Int32) : ∀ k fuel j v p a, k + j = 4 → k < fuel → TxC g N σ a p (-nI 1) c T → p ≤ N → ∃ τ, Tr_readNumber_l29 K fuel x1 x2 (nI v) (nI j) a = K x1 x2 (nI (nuG g N k v p).1) τ ∧ TxC g N σ τ (nuG g N k v p).2 (-nI 1) c T ∧ τ.1 42 4 = a.1 42 4 := by
  intro k
  induction k with
  | zero =>
    intro fuel j v p a hj hf h hp
    obtain ⟨m, rfl⟩ : ∃ m, fuel = m + 1 := ⟨fuel - 1, by omega⟩
    refine ⟨a, ?_, h, rfl⟩
    simp (disch := omega) only [Tr_readNumber_l29, pl_0, pl_1, pl_2, pl_3, pl_4, pl_5, pl_6, pl_7, pl_8, pl_9, pl_10, pl_11, pl_12, pl_13, pl_14, pl_15, pl_16, pl_17, pl_18, pl_19, pl_20, pl_21, pl_30, pl_40, pl_50, pl_51, pl_60, pl_70, pl_71, pl_99, pl_100, pl_160, pl_240, pl_256, pl_300, pl_999, pl_1000, pl_1280, pl_9999, pl_10000, pu_neg, pu_nn, pu_le, pu_lt, pu_eq, pu_cl, pu_in, pu_g, ↓pu_let, ↓pu_bind, pu_m1, pu_add, pu_mul, Nat.not_lt_zero, if_false, if_true, Nat.zero_le, pu_d2, pu_d100, pu_em1, ↓reduceIte, Nat.reduceEqDiff, Nat.reduceLT, Nat.reduceLeDiff, Nat.reduceAdd, Nat.reduceMul, Nat.reduceSub, not_true_eq_false, not_false_eq_true, and_true, true_and, and_false, false_and, or_true, true_or, or_false, false_or, Nat.lt_irrefl, Nat.le_refl, Nat.add_zero, Bool.false_eq_true, ↓pu_gI, nd_le, nd_leT, nd_lt, nd_ltT, nd_eq, nd_eqT]
    rfl
  | succ k ih =>
    intro fuel j v p a hj hf h hp
    have hN := h.2.2.2.2
    obtain ⟨m, rfl⟩ : ∃ m, fuel = m + 1 := ⟨fuel - 1, by omega⟩
    have kd := tr_digit h (q := p) (by omega)
    have e : nuG g N (k + 1) v p = if dgB g N p then nuG g N k (v * 10 + (un (g p) - 48)) (p + 1) else (v, p) := rfl
    cases d : dgB g N p with
    | true =>
      rw [d] at kd e
      rw [if_pos rfl] at kd e
      rw [e]
      have du := dg_un d
      obtain ⟨τ, t1, t2, t3⟩ := ih m (j + 1) (v * 10 + (un (g p) - 48)) (p + 1) _ (by omega) (by omega) (h.to (p + 1)) (by omega)
      refine ⟨τ, ?_, t2, t3.trans (pI_ne _ _ (by omega))⟩
      simp (disch := omega) only [Tr_readNumber_l29, pl_0, pl_1, pl_2, pl_3, pl_4, pl_5, pl_6, pl_7, pl_8, pl_9, pl_10, pl_11, pl_12, pl_13, pl_14, pl_15, pl_16, pl_17, pl_18, pl_19, pl_20, pl_21, pl_30, pl_40, pl_50, pl_51, pl_60, pl_70, pl_71, pl_99, pl_100, pl_160, pl_240, pl_256, pl_300, pl_999, pl_1000, pl_1280, pl_9999, pl_10000, pu_neg, pu_nn, pu_le, pu_lt, pu_eq, pu_cl, pu_in, pu_g, ↓pu_let, ↓pu_bind, pu_m1, pu_add, pu_mul, Nat.not_lt_zero, if_false, if_true, Nat.zero_le, pu_d2, pu_d100, pu_em1, ↓reduceIte, Nat.reduceEqDiff, Nat.reduceLT, Nat.reduceLeDiff, Nat.reduceAdd, Nat.reduceMul, Nat.reduceSub, not_true_eq_false, not_false_eq_true, and_true, true_and, and_false, false_and, or_true, true_or, or_false, false_or, Nat.lt_irrefl, Nat.le_refl, Nat.add_zero, Bool.false_eq_true, ↓pu_gI, nd_le, nd_leT, nd_lt, nd_ltT, nd_eq, nd_eqT, h.1.2.1, kd]
      exact t1
    | false =>
      rw [d] at kd e
      rw [if_neg (by decide)] at kd e
      rw [e]
      refine ⟨a, ?_, h, rfl⟩
      simp (disch := omega) only [Tr_readNumber_l29, pl_0, pl_1, pl_2, pl_3, pl_4, pl_5, pl_6, pl_7, pl_8, pl_9, pl_10, pl_11, pl_12, pl_13, pl_14, pl_15, pl_16, pl_17, pl_18, pl_19, pl_20, pl_21, pl_30, pl_40, pl_50, pl_51, pl_60, pl_70, pl_71, pl_99, pl_100, pl_160, pl_240, pl_256, pl_300, pl_999, pl_1000, pl_1280, pl_9999, pl_10000, pu_neg, pu_nn, pu_le, pu_lt, pu_eq, pu_cl, pu_in, pu_g, ↓pu_let, ↓pu_bind, pu_m1, pu_add, pu_mul, Nat.not_lt_zero, if_false, if_true, Nat.zero_le, pu_d2, pu_d100, pu_em1, ↓reduceIte, Nat.reduceEqDiff, Nat.reduceLT, Nat.reduceLeDiff, Nat.reduceAdd, Nat.reduceMul, Nat.reduceSub, not_true_eq_false, not_false_eq_true, and_true, true_and, and_false, false_and, or_true, true_or, or_false, false_or, Nat.lt_irrefl, Nat.le_refl, Nat.add_zero, Bool.false_eq_true, ↓pu_gI, nd_le, nd_leT, nd_lt, nd_ltT, nd_eq, nd_eqT, h.1.2.1, kd]
theorem tr_num_o {k : Nat} (h : TxC g N σ a p (nI k) c T) (hk : k < 2147483648) (x1 x2 : Int32) : Tr_readNumber x1 x2 a = some (nI 0, a) := by
  have ks := tr_sign_o h rfl hk (nI 32)
  unfold Tr_readNumber
  simp (disch := omega) only [pl_32, pl_0, pl_1, pl_2, pl_3, pl_4, pl_5, pl_6, pl_7, pl_8, pl_9, pl_10, pl_11, pl_12, pl_13, pl_14, pl_15, pl_16, pl_17, pl_18, pl_19, pl_20, pl_21, pl_30, pl_40, pl_50, pl_51, pl_60, pl_70, pl_71, pl_99, pl_100, pl_160, pl_240, pl_256, pl_300, pl_999, pl_1000, pl_1280, pl_9999, pl_10000, pu_neg, pu_nn, pu_le, pu_lt, pu_eq, pu_cl, pu_in, pu_g, ↓pu_let, ↓pu_bind, pu_m1, pu_add, pu_mul, Nat.not_lt_zero, if_false, if_true, Nat.zero_le, pu_d2, pu_d100, pu_em1, ↓reduceIte, Nat.reduceEqDiff, Nat.reduceLT, Nat.reduceLeDiff, Nat.reduceAdd, Nat.reduceMul, Nat.reduceSub, not_true_eq_false, not_false_eq_true, and_true, true_and, and_false, false_and, or_true, true_or, or_false, false_or, Nat.lt_irrefl, Nat.le_refl, Nat.add_zero, Bool.false_eq_true, ↓pu_gI, nd_le, nd_leT, nd_lt, nd_ltT, nd_eq, nd_eqT, ks, h.1.2.2.1]
theorem wi_n {lo hi v : Nat} (s : nm_St) (h1 : lo < 2147483648) (h2 : hi < 2147483648) (hv : v ≤ 9999) : Nm_isWithin (nI v) (nI lo) (nI hi) s = some (nI (if (decide (lo ≤ v) && decide (v ≤ hi)) then 1 else 0), s) := by
  unfold Nm_isWithin
  by_cases x : lo ≤ v <;> by_cases y : v ≤ hi <;> simp (disch := omega) only [pl_0, pl_1, pl_2, pl_3, pl_4, pl_5, pl_6, pl_7, pl_8, pl_9, pl_10, pl_11, pl_12, pl_13, pl_14, pl_15, pl_16, pl_17, pl_18, pl_19, pl_20, pl_21, pl_30, pl_40, pl_50, pl_51, pl_60, pl_70, pl_71, pl_99, pl_100, pl_160, pl_240, pl_256, pl_300, pl_999, pl_1000, pl_1280, pl_9999, pl_10000, pu_neg, pu_nn, pu_le, pu_lt, pu_eq, pu_cl, pu_in, pu_g, ↓pu_let, ↓pu_bind, pu_m1, pu_add, pu_mul, Nat.not_lt_zero, if_false, if_true, Nat.zero_le, pu_d2, pu_d100, pu_em1, ↓reduceIte, Nat.reduceEqDiff, Nat.reduceLT, Nat.reduceLeDiff, Nat.reduceAdd, Nat.reduceMul, Nat.reduceSub, not_true_eq_false, not_false_eq_true, and_true, true_and, and_false, false_and, or_true, true_or, or_false, false_or, Nat.lt_irrefl, Nat.le_refl, Nat.add_zero, Bool.false_eq_true, ↓pu_gI, nd_le, nd_leT, nd_lt, nd_ltT, nd_eq, nd_eqT, x, y, decide_true, decide_false, Bool.true_and, Bool.false_and, Bool.and_true, Bool.and_false]
theorem wi_0 {hi v : Nat} (s : nm_St) (h2 : hi < 2147483648) (hv : v ≤ 9999) : Nm_isWithin (nI v) (nI 0) (nI hi) s = some (nI (if decide (v ≤ hi) then 1 else 0), s) := by
  have := wi_n (lo := 0) s (by omega) h2 hv
  rw [decide_eq_true (Nat.zero_le v), Bool.true_and] at this
  exact this
theorem wi_m {n v : Nat} (s : nm_St) (h2 : n < 2147483648) (hv : v ≤ 9999) : Nm_isWithin (nI v) (nI 0) (nI n - nI 1) s = some (nI (if decide (v < n) then 1 else 0), s) := by
  cases n with
  | zero =>
    rw [pu_01]
    have h1 : -nI 1 < 0 := by decide +kernel
    rw [decide_eq_false (by omega)]
    unfold Nm_isWithin
    simp (disch := omega) only [pl_0, pl_1, pl_2, pl_3, pl_4, pl_5, pl_6, pl_7, pl_8, pl_9, pl_10, pl_11, pl_12, pl_13, pl_14, pl_15, pl_16, pl_17, pl_18, pl_19, pl_20, pl_21, pl_30, pl_40, pl_50, pl_51, pl_60, pl_70, pl_71, pl_99, pl_100, pl_160, pl_240, pl_256, pl_300, pl_999, pl_1000, pl_1280, pl_9999, pl_10000, pu_neg, pu_nn, pu_le, pu_lt, pu_eq, pu_cl, pu_in, pu_g, ↓pu_let, ↓pu_bind, pu_m1, pu_add, pu_mul, Nat.not_lt_zero, if_false, if_true, Nat.zero_le, pu_d2, pu_d100, pu_em1, ↓reduceIte, Nat.reduceEqDiff, Nat.reduceLT, Nat.reduceLeDiff, Nat.reduceAdd, Nat.reduceMul, Nat.reduceSub, not_true_eq_false, not_false_eq_true, and_true, true_and, and_false, false_and, or_true, true_or, or_false, false_or, Nat.lt_irrefl, Nat.le_refl, Nat.add_zero, Bool.false_eq_true, ↓pu_gI, nd_le, nd_leT, nd_lt, nd_ltT, nd_eq, nd_eqT, ngl h1, nge h1, ngle h1, nggt h1, ngne h1]
  | succ n =>
    rw [pu_pred, wi_0 s (by omega) hv]
    have e : decide (v < n + 1) = decide (v ≤ n) := by
      by_cases y : v ≤ n
      · rw [decide_eq_true y, decide_eq_true (by omega)]
      · rw [decide_eq_false y, decide_eq_false (by omega)]
    rw [e]
end RDC
