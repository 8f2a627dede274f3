/-! the council, class's side -/
def ctS (T : is_T) : Nat := if chS T = 0 then 10000 else if T 0 9 < prS T (chS T - 1) then 10000 else prS T (chS T - 1)
theorem ct_le {T : is_T} (hI : IslI T) : ctS T ≤ 10000 := by
  have := prS_le hI (chS T - 1)
  unfold ctS
  repeat' split
  all_goals omega
def mvB (A : is_T) (v : Nat) : Bool := decide (v = 0) || (decide (10 ≤ v) && atB A (v / 10 - 1) (v % 10))
def mvT (A : is_T) (v : Nat) : is_T := if v < 10 then A else sufT A (v % 10) (v / 10 - 1)
def kpG (p f s : Nat) (b : Nat × Nat × Nat) : Nat × Nat × Nat := if b.1 < p + 1 then (p + 1, f, s) else b
theorem kpG_t {p f s : Nat} {b : Nat × Nat × Nat} (h : b.1 < p + 1) : kpG p f s b = (p + 1, f, s) := if_pos h
theorem kpG_f {p f s : Nat} {b : Nat × Nat × Nat} (h : ¬ b.1 < p + 1) : kpG p f s b = b := if_neg h
theorem mv_I {A : is_T} (hI : IslI A) {v : Nat} : IslI (mvT A v) ∧ mvT A v 0 6 = A 0 6 := by
  unfold mvT
  split
  · exact ⟨hI, rfl⟩
  · exact ⟨suf_I hI, suf_6 _ _ _⟩
def inG (A : is_T) (f : Nat) (v : Nat) (b : Nat × Nat × Nat) : Nat × Nat × Nat := kpG (ctS (mvT A v)) f v b
def ouG (T : is_T) (S : Nat) (f : Nat) (b : Nat × Nat × Nat) : Nat × Nat × Nat := fdM (inG (mvT T f) f) (mvB (mvT T f)) b S
def cnS (T : is_T) (n : Nat) : Nat × Nat × Nat := fdM (ouG T (if 1 < n then 30 else 1)) (mvB T) (0, 0, 0) (if 0 < n then 30 else 1)
theorem sub_le2 {p m : Nat} (hp : p ≤ 20000) (hm : m ≤ 20000) : (nI p ≤ nI m - nI 1) = (p + 1 ≤ m) := by
  apply propext
  by_cases z : m = 0
  · subst z
    rw [pu_01]
    constructor
    · intro q
      have h1 := Int32.le_iff_toInt_le.mp q
      rw [nI_toInt (by omega), show (-nI 1 : Int32).toInt = -1 by decide +kernel] at h1
      omega
    · intro q; omega
  · obtain ⟨t, rfl⟩ : ∃ t, m = t + 1 := ⟨m - 1, by omega⟩
    rw [pu_pred, nI_leI (by omega) (by omega)]
    omega
theorem sub_lt2 {p m : Nat} (hp : p ≤ 20000) (hm : m ≤ 20000) : (nI m - nI 1 < nI p) = (m < p + 1) := by
  apply propext
  by_cases z : m = 0
  · subst z
    rw [pu_01]
    constructor
    · intro q; omega
    · intro q
      refine Int32.lt_iff_toInt_lt.mpr ?_
      rw [nI_toInt (by omega), show (-nI 1 : Int32).toInt = -1 by decide +kernel]
      omega
  · obtain ⟨t, rfl⟩ : ∃ t, m = t + 1 := ⟨m - 1, by omega⟩
    rw [pu_pred, nI_ltI (by omega) (by omega)]
    omega
/-- what the council's cells say -/
def CoB (a : nm_St) (b : Nat × Nat × Nat) : Prop := (a.1 27 2 = nI b.1 - nI 1 ∧ b.1 ≤ 10001) ∧ (b.1 ≠ 0 → a.1 27 3 = nI b.2.1 ∧ a.1 27 4 = nI b.2.2)
section COU
variable {σ : nm_St} {o : Nat} {T : is_T}
theorem co_canMove (h : IslR σ o T) (hI : IslI T) {v : Nat} (hv : v < 30) : Co_canMove o (nI v) σ = some (nI (if mvB T v then 1 else 0), σ) := by
  have hm : v - v / 10 * 10 = v % 10 := by omega
  unfold Co_canMove mvB
  by_cases h0 : v = 0
  · subst h0
    simp (disch := omega) only [pl_0, pl_1, pl_2, pl_3, pl_4, pl_5, pl_6, pl_7, pl_8, pl_9, pl_10, pl_11, pl_12, pl_13, pl_14, pl_15, pl_16, pl_17, pl_18, pl_19, pl_20, pl_21, pl_30, pl_40, pl_50, pl_51, pl_60, pl_70, pl_71, pl_99, pl_100, pl_160, pl_240, pl_256, pl_300, pl_999, pl_1000, pl_1280, pl_9999, pl_10000, pu_neg, pu_nn, pu_le, pu_lt, pu_eq, pu_cl, pu_in, pu_g, ↓pu_let, ↓pu_bind, pu_m1, pu_add, pu_mul, Nat.not_lt_zero, if_false, if_true, Nat.zero_le, pu_d2, pu_d100, pu_em1, ↓reduceIte, Nat.reduceEqDiff, Nat.reduceLT, Nat.reduceLeDiff, Nat.reduceAdd, Nat.reduceMul, Nat.reduceSub, not_true_eq_false, not_false_eq_true, and_true, true_and, and_false, false_and, or_true, true_or, or_false, false_or, Nat.lt_irrefl, Nat.le_refl, Nat.add_zero, Bool.false_eq_true, ↓pu_gI, nd_le, nd_leT, nd_lt, nd_ltT, nd_eq, nd_eqT, decide_true, Bool.true_or]
  · by_cases h1 : 10 ≤ v
    · have k := is_canSuffer h hI (m := v % 10) (d := v / 10 - 1) (by omega) (by omega)
      simp (disch := omega) only [pl_0, pl_1, pl_2, pl_3, pl_4, pl_5, pl_6, pl_7, pl_8, pl_9, pl_10, pl_11, pl_12, pl_13, pl_14, pl_15, pl_16, pl_17, pl_18, pl_19, pl_20, pl_21, pl_30, pl_40, pl_50, pl_51, pl_60, pl_70, pl_71, pl_99, pl_100, pl_160, pl_240, pl_256, pl_300, pl_999, pl_1000, pl_1280, pl_9999, pl_10000, pu_neg, pu_nn, pu_le, pu_lt, pu_eq, pu_cl, pu_in, pu_g, ↓pu_let, ↓pu_bind, pu_m1, pu_add, pu_mul, Nat.not_lt_zero, if_false, if_true, Nat.zero_le, pu_d2, pu_d100, pu_em1, ↓reduceIte, Nat.reduceEqDiff, Nat.reduceLT, Nat.reduceLeDiff, Nat.reduceAdd, Nat.reduceMul, Nat.reduceSub, not_true_eq_false, not_false_eq_true, and_true, true_and, and_false, false_and, or_true, true_or, or_false, false_or, Nat.lt_irrefl, Nat.le_refl, Nat.add_zero, Bool.false_eq_true, ↓pu_gI, nd_le, nd_leT, nd_lt, nd_ltT, nd_eq, nd_eqT, decide_false, Bool.not_false, pk_div, pk_sub, hm, k]
      cases e : atB T (v / 10 - 1) (v % 10) <;> simp [h0, h1, pu_10]
    · simp (disch := omega) only [pl_0, pl_1, pl_2, pl_3, pl_4, pl_5, pl_6, pl_7, pl_8, pl_9, pl_10, pl_11, pl_12, pl_13, pl_14, pl_15, pl_16, pl_17, pl_18, pl_19, pl_20, pl_21, pl_30, pl_40, pl_50, pl_51, pl_60, pl_70, pl_71, pl_99, pl_100, pl_160, pl_240, pl_256, pl_300, pl_999, pl_1000, pl_1280, pl_9999, pl_10000, pu_neg, pu_nn, pu_le, pu_lt, pu_eq, pu_cl, pu_in, pu_g, ↓pu_let, ↓pu_bind, pu_m1, pu_add, pu_mul, Nat.not_lt_zero, if_false, if_true, Nat.zero_le, pu_d2, pu_d100, pu_em1, ↓reduceIte, Nat.reduceEqDiff, Nat.reduceLT, Nat.reduceLeDiff, Nat.reduceAdd, Nat.reduceMul, Nat.reduceSub, not_true_eq_false, not_false_eq_true, and_true, true_and, and_false, false_and, or_true, true_or, or_false, false_or, Nat.lt_irrefl, Nat.le_refl, Nat.add_zero, Bool.false_eq_true, ↓pu_gI, nd_le, nd_leT, nd_lt, nd_ltT, nd_eq, nd_eqT]
      simp [h0, h1]
theorem co_moveOn {o2 : Nat} (h : IslR σ o T) (hI : IslI T) (hd : o2 + 6 < o ∨ o + 6 < o2) {v : Nat} (hv : v < 30) (hm : mvB T v = true) : ∃ τ, Co_moveOn o (nI v) o2 σ = some ((), τ) ∧ IslU σ o2 τ (mvT T v) := by
  have hmo : v - v / 10 * 10 = v % 10 := by omega
  obtain ⟨ρ, e1, u1⟩ := is_become h hd
  unfold Co_moveOn mvT
  by_cases h1 : 10 ≤ v
  · have ha : atB T (v / 10 - 1) (v % 10) = true := by
      unfold mvB at hm
      simpa [h1, show v ≠ 0 by omega] using hm
    obtain ⟨τ, e2, u2⟩ := is_suffer u1.1 hI (show v / 10 - 1 < 3 by omega) ha
    refine ⟨τ, ?_, ?_⟩
    · simp (disch := omega) only [pl_0, pl_1, pl_2, pl_3, pl_4, pl_5, pl_6, pl_7, pl_8, pl_9, pl_10, pl_11, pl_12, pl_13, pl_14, pl_15, pl_16, pl_17, pl_18, pl_19, pl_20, pl_21, pl_30, pl_40, pl_50, pl_51, pl_60, pl_70, pl_71, pl_99, pl_100, pl_160, pl_240, pl_256, pl_300, pl_999, pl_1000, pl_1280, pl_9999, pl_10000, pu_neg, pu_nn, pu_le, pu_lt, pu_eq, pu_cl, pu_in, pu_g, ↓pu_let, ↓pu_bind, pu_m1, pu_add, pu_mul, Nat.not_lt_zero, if_false, if_true, Nat.zero_le, pu_d2, pu_d100, pu_em1, ↓reduceIte, Nat.reduceEqDiff, Nat.reduceLT, Nat.reduceLeDiff, Nat.reduceAdd, Nat.reduceMul, Nat.reduceSub, not_true_eq_false, not_false_eq_true, and_true, true_and, and_false, false_and, or_true, true_or, or_false, false_or, Nat.lt_irrefl, Nat.le_refl, Nat.add_zero, Bool.false_eq_true, ↓pu_gI, nd_le, nd_leT, nd_lt, nd_ltT, nd_eq, nd_eqT, e1, decide_false, Bool.not_false, pk_div, pk_sub, hmo, e2]
    · rw [if_neg (by omega)]
      exact u1.tr u2
  · refine ⟨ρ, ?_, ?_⟩
    · simp (disch := omega) only [pl_0, pl_1, pl_2, pl_3, pl_4, pl_5, pl_6, pl_7, pl_8, pl_9, pl_10, pl_11, pl_12, pl_13, pl_14, pl_15, pl_16, pl_17, pl_18, pl_19, pl_20, pl_21, pl_30, pl_40, pl_50, pl_51, pl_60, pl_70, pl_71, pl_99, pl_100, pl_160, pl_240, pl_256, pl_300, pl_999, pl_1000, pl_1280, pl_9999, pl_10000, pu_neg, pu_nn, pu_le, pu_lt, pu_eq, pu_cl, pu_in, pu_g, ↓pu_let, ↓pu_bind, pu_m1, pu_add, pu_mul, Nat.not_lt_zero, if_false, if_true, Nat.zero_le, pu_d2, pu_d100, pu_em1, ↓reduceIte, Nat.reduceEqDiff, Nat.reduceLT, Nat.reduceLeDiff, Nat.reduceAdd, Nat.reduceMul, Nat.reduceSub, not_true_eq_false, not_false_eq_true, and_true, true_and, and_false, false_and, or_true, true_or, or_false, false_or, Nat.lt_irrefl, Nat.le_refl, Nat.add_zero, Bool.false_eq_true, ↓pu_gI, nd_le, nd_leT, nd_lt, nd_ltT, nd_eq, nd_eqT, e1]
    · rw [if_pos (by omega)]
      exact u1
theorem co_pays (h : IslR σ o T) (hI : IslI T) (hz : ZR σ) (ho : o + 6 < 23 ∨ 26 < o) : ∃ τ, Co_courtPays o σ = some (nI (ctS T), τ) ∧ SeF σ τ := by
  have hc := hI.1
  have hq := hI.2.2.2.1
  have h2p := pu_p2 hc
  obtain ⟨l1, l2⟩ := sbs_len (atB T 0) 8
  obtain ⟨τ, e, la, sf⟩ := se_layOut h hz hI ho (f := atB T 0) (fun i hi => at_out hi)
  have h2 := h.sef sf ho
  obtain ⟨j, e2, pl⟩ := se_cheap hI la l2
  rw [← fd_same (chG T) (atB T 0) 0 hc (fun i hi => at_out hi)] at pl
  refine ⟨τ, ?_, sf⟩
  unfold abK at e2
  unfold Co_courtPays ctS
  simp only [pl_0, pl_1, pl_2, pl_3, pl_4, pl_5, pl_6, pl_7, pl_8, pl_9, pl_10, pl_11, pl_12, pl_13, pl_14, pl_15, pl_16, pl_17, pl_18, pl_19, pl_20, pl_21, pl_30, pl_40, pl_50, pl_51, pl_60, pl_70, pl_71, pl_99, pl_100, pl_160, pl_240, pl_256, pl_300, pl_999, pl_1000, pl_1280, pl_9999, pl_10000, is_thoseAt h hI (show 0 ≤ 3 by omega), e, pu_bind, is_knownAbroad h2 hI, is_allParts h2 hI, e2]
  rcases pl with ⟨b0, rfl⟩ | ⟨k, hk, rfl, hb⟩
  · have b0' : chS T = 0 := b0
    simp (disch := omega) only [Co_courtPays_j44, Co_courtPays_j45, pl_0, pl_1, pl_2, pl_3, pl_4, pl_5, pl_6, pl_7, pl_8, pl_9, pl_10, pl_11, pl_12, pl_13, pl_14, pl_15, pl_16, pl_17, pl_18, pl_19, pl_20, pl_21, pl_30, pl_40, pl_50, pl_51, pl_60, pl_70, pl_71, pl_99, pl_100, pl_160, pl_240, pl_256, pl_300, pl_999, pl_1000, pl_1280, pl_9999, pl_10000, pu_neg, pu_nn, pu_le, pu_lt, pu_eq, pu_cl, pu_in, pu_g, ↓pu_let, ↓pu_bind, pu_m1, pu_add, pu_mul, Nat.not_lt_zero, if_false, if_true, Nat.zero_le, pu_d2, pu_d100, pu_em1, ↓reduceIte, Nat.reduceEqDiff, Nat.reduceLT, Nat.reduceLeDiff, Nat.reduceAdd, Nat.reduceMul, Nat.reduceSub, not_true_eq_false, not_false_eq_true, and_true, true_and, and_false, false_and, or_true, true_or, or_false, false_or, Nat.lt_irrefl, Nat.le_refl, Nat.add_zero, Bool.false_eq_true, ↓pu_gI, nd_le, nd_leT, nd_lt, nd_ltT, nd_eq, nd_eqT]
  · have hb' : (sbs (atB T 0) 8).getD k 0 + 1 = chS T := hb
    obtain ⟨q1, q2, q3⟩ := la.2 k hk
    have hpr := prS_le hI ((sbs (atB T 0) 8).getD k 0)
    have kc : Se_costOf (nI k) τ = some (nI (prS T ((sbs (atB T 0) 8).getD k 0)), τ) := by
      simp (disch := omega) only [Se_costOf, pl_0, pl_1, pl_2, pl_3, pl_4, pl_5, pl_6, pl_7, pl_8, pl_9, pl_10, pl_11, pl_12, pl_13, pl_14, pl_15, pl_16, pl_17, pl_18, pl_19, pl_20, pl_21, pl_30, pl_40, pl_50, pl_51, pl_60, pl_70, pl_71, pl_99, pl_100, pl_160, pl_240, pl_256, pl_300, pl_999, pl_1000, pl_1280, pl_9999, pl_10000, pu_neg, pu_nn, pu_le, pu_lt, pu_eq, pu_cl, pu_in, pu_g, ↓pu_let, ↓pu_bind, pu_m1, pu_add, pu_mul, Nat.not_lt_zero, if_false, if_true, Nat.zero_le, pu_d2, pu_d100, pu_em1, ↓reduceIte, Nat.reduceEqDiff, Nat.reduceLT, Nat.reduceLeDiff, Nat.reduceAdd, Nat.reduceMul, Nat.reduceSub, not_true_eq_false, not_false_eq_true, and_true, true_and, and_false, false_and, or_true, true_or, or_false, false_or, Nat.lt_irrefl, Nat.le_refl, Nat.add_zero, Bool.false_eq_true, ↓pu_gI, nd_le, nd_leT, nd_lt, nd_ltT, nd_eq, nd_eqT, la.1, q2]
    rw [← hb', Nat.add_sub_cancel]
    generalize (sbs (atB T 0) 8).getD k 0 = x at *
    by_cases z : T 0 9 < prS T x
    · simp (disch := omega) only [Co_courtPays_j44, Co_courtPays_j45, pl_0, pl_1, pl_2, pl_3, pl_4, pl_5, pl_6, pl_7, pl_8, pl_9, pl_10, pl_11, pl_12, pl_13, pl_14, pl_15, pl_16, pl_17, pl_18, pl_19, pl_20, pl_21, pl_30, pl_40, pl_50, pl_51, pl_60, pl_70, pl_71, pl_99, pl_100, pl_160, pl_240, pl_256, pl_300, pl_999, pl_1000, pl_1280, pl_9999, pl_10000, pu_neg, pu_nn, pu_le, pu_lt, pu_eq, pu_cl, pu_in, pu_g, ↓pu_let, ↓pu_bind, pu_m1, pu_add, pu_mul, Nat.not_lt_zero, if_false, if_true, Nat.zero_le, pu_d2, pu_d100, pu_em1, ↓reduceIte, Nat.reduceEqDiff, Nat.reduceLT, Nat.reduceLeDiff, Nat.reduceAdd, Nat.reduceMul, Nat.reduceSub, not_true_eq_false, not_false_eq_true, and_true, true_and, and_false, false_and, or_true, true_or, or_false, false_or, Nat.lt_irrefl, Nat.le_refl, Nat.add_zero, Bool.false_eq_true, ↓pu_gI, nd_le, nd_leT, nd_lt, nd_ltT, nd_eq, nd_eqT, kc, h2.q]
    · simp (disch := omega) only [Co_courtPays_j44, Co_courtPays_j45, pl_0, pl_1, pl_2, pl_3, pl_4, pl_5, pl_6, pl_7, pl_8, pl_9, pl_10, pl_11, pl_12, pl_13, pl_14, pl_15, pl_16, pl_17, pl_18, pl_19, pl_20, pl_21, pl_30, pl_40, pl_50, pl_51, pl_60, pl_70, pl_71, pl_99, pl_100, pl_160, pl_240, pl_256, pl_300, pl_999, pl_1000, pl_1280, pl_9999, pl_10000, pu_neg, pu_nn, pu_le, pu_lt, pu_eq, pu_cl, pu_in, pu_g, ↓pu_let, ↓pu_bind, pu_m1, pu_add, pu_mul, Nat.not_lt_zero, if_false, if_true, Nat.zero_le, pu_d2, pu_d100, pu_em1, ↓reduceIte, Nat.reduceEqDiff, Nat.reduceLT, Nat.reduceLeDiff, Nat.reduceAdd, Nat.reduceMul, Nat.reduceSub, not_true_eq_false, not_false_eq_true, and_true, true_and, and_false, false_and, or_true, true_or, or_false, false_or, Nat.lt_irrefl, Nat.le_refl, Nat.add_zero, Bool.false_eq_true, ↓pu_gI, nd_le, nd_leT, nd_lt, nd_ltT, nd_eq, nd_eqT, kc, h2.q, pu_10]
theorem co_keep {b : Nat × Nat × Nat} (h : CoB σ b) {p f s : Nat} (hp : p ≤ 10000) : ∃ τ, Co_keepIfBetter (nI p) (nI f) (nI s) σ = some ((), τ) ∧ CoB τ (kpG p f s b) ∧ (∀ k, k ≠ 27 → τ.1 k = σ.1 k) ∧ τ.2 = σ.2 := by
  have hb := h.1.2
  unfold Co_keepIfBetter
  by_cases z : b.1 < p + 1
  · refine ⟨nm_pI (nm_pI (nm_pI σ 27 2 (nI p)) 27 3 (nI f)) 27 4 (nI s), ?_, ?_, fun k hk => ?_, rfl⟩
    · simp (disch := omega) only [pl_0, pl_1, pl_2, pl_3, pl_4, pl_5, pl_6, pl_7, pl_8, pl_9, pl_10, pl_11, pl_12, pl_13, pl_14, pl_15, pl_16, pl_17, pl_18, pl_19, pl_20, pl_21, pl_30, pl_40, pl_50, pl_51, pl_60, pl_70, pl_71, pl_99, pl_100, pl_160, pl_240, pl_256, pl_300, pl_999, pl_1000, pl_1280, pl_9999, pl_10000, pu_neg, pu_nn, pu_le, pu_lt, pu_eq, pu_cl, pu_in, pu_g, ↓pu_let, ↓pu_bind, pu_m1, pu_add, pu_mul, Nat.not_lt_zero, if_false, if_true, Nat.zero_le, pu_d2, pu_d100, pu_em1, ↓reduceIte, Nat.reduceEqDiff, Nat.reduceLT, Nat.reduceLeDiff, Nat.reduceAdd, Nat.reduceMul, Nat.reduceSub, not_true_eq_false, not_false_eq_true, and_true, true_and, and_false, false_and, or_true, true_or, or_false, false_or, Nat.lt_irrefl, Nat.le_refl, Nat.add_zero, Bool.false_eq_true, ↓pu_gI, nd_le, nd_leT, nd_lt, nd_ltT, nd_eq, nd_eqT, h.1.1, sub_le2]
    · rw [kpG_t z]
      refine ⟨⟨?_, by show p + 1 ≤ _; omega⟩, fun _ => ⟨?_, ?_⟩⟩
      · rw [pI_ne _ _ (by omega), pI_ne _ _ (by omega), pI_eq]
        exact (pu_pred p).symm
      · rw [pI_ne _ _ (by omega), pI_eq]
      · rw [pI_eq]
    · funext j
      rw [pI_ne _ _ (by omega), pI_ne _ _ (by omega), pI_ne _ _ (by omega)]
  · refine ⟨σ, ?_, ?_, fun _ _ => rfl, rfl⟩
    · simp (disch := omega) only [pl_0, pl_1, pl_2, pl_3, pl_4, pl_5, pl_6, pl_7, pl_8, pl_9, pl_10, pl_11, pl_12, pl_13, pl_14, pl_15, pl_16, pl_17, pl_18, pl_19, pl_20, pl_21, pl_30, pl_40, pl_50, pl_51, pl_60, pl_70, pl_71, pl_99, pl_100, pl_160, pl_240, pl_256, pl_300, pl_999, pl_1000, pl_1280, pl_9999, pl_10000, pu_neg, pu_nn, pu_le, pu_lt, pu_eq, pu_cl, pu_in, pu_g, ↓pu_let, ↓pu_bind, pu_m1, pu_add, pu_mul, Nat.not_lt_zero, if_false, if_true, Nat.zero_le, pu_d2, pu_d100, pu_em1, ↓reduceIte, Nat.reduceEqDiff, Nat.reduceLT, Nat.reduceLeDiff, Nat.reduceAdd, Nat.reduceMul, Nat.reduceSub, not_true_eq_false, not_false_eq_true, and_true, true_and, and_false, false_and, or_true, true_or, or_false, false_or, Nat.lt_irrefl, Nat.le_refl, Nat.add_zero, Bool.false_eq_true, ↓pu_gI, nd_le, nd_leT, nd_lt, nd_ltT, nd_eq, nd_eqT, h.1.1, sub_le2]
    · rw [kpG_f z]; exact h
theorem ZR.out {τ : nm_St} (h : ZR σ) (f : ∀ k, 24 ≤ k → k ≤ 26 → τ.1 k = σ.1 k) : ZR τ := by
  unfold ZR
  rw [f 24 (by omega) (by omega), f 25 (by omega) (by omega), f 26 (by omega) (by omega)]
  exact h
theorem IslR.cg {τ : nm_St} (h : IslR σ o T) (f : ∀ k, o ≤ k → k ≤ o + 6 → τ.1 k = σ.1 k) : IslR τ o T := ⟨fun r j a b c => by rw [f _ (by omega) (by omega)]; exact h.1 r j a b c, fun j a b => by rw [f _ (by omega) (by omega)]; exact h.2 j a b⟩
theorem fr27 {τ : nm_St} (f : ∀ k, k ≠ 27 → τ.1 k = σ.1 k) (g : τ.2 = σ.2) : Fr [0] σ τ := fun k j hk => by
  refine ⟨?_, by rw [g]⟩
  by_cases e : k = 27
  · subst e
    exact absurd hk (by rw [show rg 27 j = 0 from rfl]; decide)
  · rw [f k e]
theorem co_inner (K : Int32 → Int32 → Int32 → nm_St → Option (Unit × nm_St)) {A : is_T} (hA : IslI A) (h : IslR σ 28 A) (hz : ZR σ) {b : Nat × Nat × Nat} (hb : CoB σ b) {F S f : Nat} (hS : S ≤ 30) (Q : Option (Unit × nm_St) → Prop) (hK : ∀ τ, IslR τ 28 A → ZR τ → CoB τ (fdM (inG A f) (mvB A) b S) → Fr [0] σ τ → Q (K (nI F) (nI S) (nI f) τ)) : Q (Co_weigh_l65 2 K 400 (nI F) (nI S) (nI f) (nI 0) σ) := by
  refine lp_Q (fun n v (a : nm_St) => Co_weigh_l65 2 K n (nI F) (nI S) (nI f) (nI v) a) S (fun v a => IslR a 28 A ∧ ZR a ∧ CoB a (fdM (inG A f) (mvB A) b v) ∧ Fr [0] σ a) Q ?_ ?_ 400 0 σ (by omega) ⟨h, hz, hb, Fr.rf _ _⟩ (by omega)
  · intro n v a hv hp ih
    obtain ⟨p1, p2, p3, p4⟩ := hp
    have kc := co_canMove p1 hA (show v < 30 by omega)
    cases e : mvB A v with
    | false =>
      rw [e] at kc
      have hs := ih a (by rw [fdM_f e]; exact ⟨p1, p2, p3, p4⟩)
      simp (disch := omega) only [Co_weigh_l65, pl_0, pl_1, pl_2, pl_3, pl_4, pl_5, pl_6, pl_7, pl_8, pl_9, pl_10, pl_11, pl_12, pl_13, pl_14, pl_15, pl_16, pl_17, pl_18, pl_19, pl_20, pl_21, pl_30, pl_40, pl_50, pl_51, pl_60, pl_70, pl_71, pl_99, pl_100, pl_160, pl_240, pl_256, pl_300, pl_999, pl_1000, pl_1280, pl_9999, pl_10000, pu_neg, pu_nn, pu_le, pu_lt, pu_eq, pu_cl, pu_in, pu_g, ↓pu_let, ↓pu_bind, pu_m1, pu_add, pu_mul, Nat.not_lt_zero, if_false, if_true, Nat.zero_le, pu_d2, pu_d100, pu_em1, ↓reduceIte, Nat.reduceEqDiff, Nat.reduceLT, Nat.reduceLeDiff, Nat.reduceAdd, Nat.reduceMul, Nat.reduceSub, not_true_eq_false, not_false_eq_true, and_true, true_and, and_false, false_and, or_true, true_or, or_false, false_or, Nat.lt_irrefl, Nat.le_refl, Nat.add_zero, Bool.false_eq_true, ↓pu_gI, nd_le, nd_leT, nd_lt, nd_ltT, nd_eq, nd_eqT, kc]
      exact hs
    | true =>
      rw [e] at kc
      obtain ⟨a1, e1, u1⟩ := co_moveOn (o2 := 35) p1 hA (Or.inr (by omega)) (show v < 30 by omega) e
      have z1 : ZR a1 := p2.out (fun k h1 h2 => u1.2.1 k (by omega))
      obtain ⟨a2, e2, s2⟩ := co_pays u1.1 (mv_I hA).1 z1 (Or.inr (by omega))
      have b2 : CoB a2 (fdM (inG A f) (mvB A) b v) := by
        have e27 : a2.1 27 = a.1 27 := (s2.1 27 (by omega)).trans (u1.2.1 27 (by omega))
        unfold CoB
        rw [e27]
        exact p3
      obtain ⟨a3, e3, c3, f3, g3⟩ := co_keep (f := f) (s := v) b2 (ct_le (mv_I hA (v := v)).1)
      have i3 : IslR a3 28 A := p1.cg (fun k h1 h2 => by rw [f3 k (by omega), s2.1 k (by omega), u1.2.1 k (by omega)])
      have z3 : ZR a3 := by
        have z2 : ZR a2 := ⟨by rw [s2.2.2 24 (by omega) (by omega)]; exact z1.1, by rw [s2.2.2 25 (by omega) (by omega)]; exact z1.2.1, by rw [s2.2.2 26 (by omega) (by omega)]; exact z1.2.2⟩
        exact z2.out (fun k h1 h2 => f3 k (by omega))
      have F3 : Fr [0] σ a3 := p4.tr (u1.2.fr35.tr (s2.fr.tr (fr27 f3 g3)))
      have hs := ih a3 (by rw [fdM_t e]; exact ⟨i3, z3, c3, F3⟩)
      simp (disch := omega) only [Co_weigh_l65, pl_0, pl_1, pl_2, pl_3, pl_4, pl_5, pl_6, pl_7, pl_8, pl_9, pl_10, pl_11, pl_12, pl_13, pl_14, pl_15, pl_16, pl_17, pl_18, pl_19, pl_20, pl_21, pl_30, pl_40, pl_50, pl_51, pl_60, pl_70, pl_71, pl_99, pl_100, pl_160, pl_240, pl_256, pl_300, pl_999, pl_1000, pl_1280, pl_9999, pl_10000, pu_neg, pu_nn, pu_le, pu_lt, pu_eq, pu_cl, pu_in, pu_g, ↓pu_let, ↓pu_bind, pu_m1, pu_add, pu_mul, Nat.not_lt_zero, if_false, if_true, Nat.zero_le, pu_d2, pu_d100, pu_em1, ↓reduceIte, Nat.reduceEqDiff, Nat.reduceLT, Nat.reduceLeDiff, Nat.reduceAdd, Nat.reduceMul, Nat.reduceSub, not_true_eq_false, not_false_eq_true, and_true, true_and, and_false, false_and, or_true, true_or, or_false, false_or, Nat.lt_irrefl, Nat.le_refl, Nat.add_zero, Bool.false_eq_true, ↓pu_gI, nd_le, nd_leT, nd_lt, nd_ltT, nd_eq, nd_eqT, kc, e1, e2, e3]
      exact hs
  · intro n a hp
    obtain ⟨p1, p2, p3, p4⟩ := hp
    simp (disch := omega) only [Co_weigh_l65, pl_0, pl_1, pl_2, pl_3, pl_4, pl_5, pl_6, pl_7, pl_8, pl_9, pl_10, pl_11, pl_12, pl_13, pl_14, pl_15, pl_16, pl_17, pl_18, pl_19, pl_20, pl_21, pl_30, pl_40, pl_50, pl_51, pl_60, pl_70, pl_71, pl_99, pl_100, pl_160, pl_240, pl_256, pl_300, pl_999, pl_1000, pl_1280, pl_9999, pl_10000, pu_neg, pu_nn, pu_le, pu_lt, pu_eq, pu_cl, pu_in, pu_g, ↓pu_let, ↓pu_bind, pu_m1, pu_add, pu_mul, Nat.not_lt_zero, if_false, if_true, Nat.zero_le, pu_d2, pu_d100, pu_em1, ↓reduceIte, Nat.reduceEqDiff, Nat.reduceLT, Nat.reduceLeDiff, Nat.reduceAdd, Nat.reduceMul, Nat.reduceSub, not_true_eq_false, not_false_eq_true, and_true, true_and, and_false, false_and, or_true, true_or, or_false, false_or, Nat.lt_irrefl, Nat.le_refl, Nat.add_zero, Bool.false_eq_true, ↓pu_gI, nd_le, nd_leT, nd_lt, nd_ltT, nd_eq, nd_eqT]
    exact hK a p1 p2 p3 p4
theorem co_weigh (h : IslR σ 2 T) (hI : IslI T) (hz : ZR σ) {n : Nat} (hn : n ≤ 2) : ∃ τ, Co_weigh 2 (nI n) σ = some ((), τ) ∧ CoB τ (cnS T n) ∧ Fr [0] σ τ := by
  have hA : Co_weigh 2 (nI n) σ = Co_weigh_l33 2 (fun (s18 : nm_St) => some ((), s18)) 400 (nI (if 0 < n then 30 else 1)) (nI (if 1 < n then 30 else 1)) (nI 0) (nm_pI σ 27 2 (-nI 1)) := by
    have hn3 : n = 0 ∨ n = 1 ∨ n = 2 := by omega
    rcases hn3 with rfl | rfl | rfl
    all_goals simp (disch := omega) only [Co_weigh, Co_weigh_j10, Co_weigh_j23, pl_0, pl_1, pl_2, pl_3, pl_4, pl_5, pl_6, pl_7, pl_8, pl_9, pl_10, pl_11, pl_12, pl_13, pl_14, pl_15, pl_16, pl_17, pl_18, pl_19, pl_20, pl_21, pl_30, pl_40, pl_50, pl_51, pl_60, pl_70, pl_71, pl_99, pl_100, pl_160, pl_240, pl_256, pl_300, pl_999, pl_1000, pl_1280, pl_9999, pl_10000, pu_neg, pu_nn, pu_le, pu_lt, pu_eq, pu_cl, pu_in, pu_g, ↓pu_let, ↓pu_bind, pu_m1, pu_add, pu_mul, Nat.not_lt_zero, if_false, if_true, Nat.zero_le, pu_d2, pu_d100, pu_em1, ↓reduceIte, Nat.reduceEqDiff, Nat.reduceLT, Nat.reduceLeDiff, Nat.reduceAdd, Nat.reduceMul, Nat.reduceSub, not_true_eq_false, not_false_eq_true, and_true, true_and, and_false, false_and, or_true, true_or, or_false, false_or, Nat.lt_irrefl, Nat.le_refl, Nat.add_zero, Bool.false_eq_true, ↓pu_gI, nd_le, nd_leT, nd_lt, nd_ltT, nd_eq, nd_eqT]
  rw [hA]
  unfold cnS
  have hS : (if 1 < n then 30 else 1) ≤ 30 := by split <;> omega
  have hF : (if 0 < n then 30 else 1) ≤ 30 := by split <;> omega
  generalize (if 1 < n then 30 else 1) = S at *
  generalize (if 0 < n then 30 else 1) = F at *
  have F0 : Fr [0] σ (nm_pI σ 27 2 (-nI 1)) := (Fr.rf _ _).pI _ rfl
  refine lp_Q (fun n f (a : nm_St) => Co_weigh_l33 2 _ n (nI F) (nI S) (nI f) a) F (fun f a => ZR a ∧ CoB a (fdM (ouG T S) (mvB T) (0, 0, 0) f) ∧ Fr [0] σ a) (fun r => ∃ τ, r = some ((), τ) ∧ CoB τ (fdM (ouG T S) (mvB T) (0, 0, 0) F) ∧ Fr [0] σ τ) ?_ ?_ 400 0 (nm_pI σ 27 2 (-nI 1)) (by omega) ⟨hz.fr F0 rfl, ⟨⟨by rw [pI_eq]; exact pu_01.symm, Nat.zero_le _⟩, fun q => absurd rfl q⟩, F0⟩ (by omega)
  · intro n f a hf hp ih
    obtain ⟨p2, p3, p4⟩ := hp
    have p1 := h.fr2 p4 rfl
    have kc := co_canMove p1 hI (show f < 30 by omega)
    cases e : mvB T f with
    | false =>
      rw [e] at kc
      have hs := ih a (by rw [fdM_f e]; exact ⟨p2, p3, p4⟩)
      simp (disch := omega) only [Co_weigh_l33, pl_0, pl_1, pl_2, pl_3, pl_4, pl_5, pl_6, pl_7, pl_8, pl_9, pl_10, pl_11, pl_12, pl_13, pl_14, pl_15, pl_16, pl_17, pl_18, pl_19, pl_20, pl_21, pl_30, pl_40, pl_50, pl_51, pl_60, pl_70, pl_71, pl_99, pl_100, pl_160, pl_240, pl_256, pl_300, pl_999, pl_1000, pl_1280, pl_9999, pl_10000, pu_neg, pu_nn, pu_le, pu_lt, pu_eq, pu_cl, pu_in, pu_g, ↓pu_let, ↓pu_bind, pu_m1, pu_add, pu_mul, Nat.not_lt_zero, if_false, if_true, Nat.zero_le, pu_d2, pu_d100, pu_em1, ↓reduceIte, Nat.reduceEqDiff, Nat.reduceLT, Nat.reduceLeDiff, Nat.reduceAdd, Nat.reduceMul, Nat.reduceSub, not_true_eq_false, not_false_eq_true, and_true, true_and, and_false, false_and, or_true, true_or, or_false, false_or, Nat.lt_irrefl, Nat.le_refl, Nat.add_zero, Bool.false_eq_true, ↓pu_gI, nd_le, nd_leT, nd_lt, nd_ltT, nd_eq, nd_eqT, kc]
      exact hs
    | true =>
      rw [e] at kc
      obtain ⟨a1, e1, u1⟩ := co_moveOn (o2 := 28) p1 hI (Or.inr (by omega)) (show f < 30 by omega) e
      have z1 : ZR a1 := p2.out (fun k h1 h2 => u1.2.1 k (by omega))
      have b1 : CoB a1 (fdM (ouG T S) (mvB T) (0, 0, 0) f) := by
        unfold CoB
        rw [u1.2.1 27 (by omega)]
        exact p3
      have main := co_inner (fun (e15 : Int32) (e16 : Int32) (e17 : Int32) (s14 : nm_St) => (Co_weigh_l33 2 (fun (s18 : nm_St) => some ((), s18)) n) e15 e16 (e17 + nI 1) s14) (mv_I hI (v := f)).1 u1.1 z1 b1 (F := F) (f := f) hS (fun r => ∃ τ, r = some ((), τ) ∧ CoB τ (fdM (ouG T S) (mvB T) (0, 0, 0) F) ∧ Fr [0] σ τ) (fun τ t1 t2 t3 t4 => by
        rw [pu_add]
        exact ih τ (by rw [fdM_t e]; exact ⟨t2, t3, p4.tr (u1.2.fr28.tr t4)⟩))
      simp (disch := omega) only [Co_weigh_l33, pl_0, pl_1, pl_2, pl_3, pl_4, pl_5, pl_6, pl_7, pl_8, pl_9, pl_10, pl_11, pl_12, pl_13, pl_14, pl_15, pl_16, pl_17, pl_18, pl_19, pl_20, pl_21, pl_30, pl_40, pl_50, pl_51, pl_60, pl_70, pl_71, pl_99, pl_100, pl_160, pl_240, pl_256, pl_300, pl_999, pl_1000, pl_1280, pl_9999, pl_10000, pu_neg, pu_nn, pu_le, pu_lt, pu_eq, pu_cl, pu_in, pu_g, ↓pu_let, ↓pu_bind, pu_m1, pu_add, pu_mul, Nat.not_lt_zero, if_false, if_true, Nat.zero_le, pu_d2, pu_d100, pu_em1, ↓reduceIte, Nat.reduceEqDiff, Nat.reduceLT, Nat.reduceLeDiff, Nat.reduceAdd, Nat.reduceMul, Nat.reduceSub, not_true_eq_false, not_false_eq_true, and_true, true_and, and_false, false_and, or_true, true_or, or_false, false_or, Nat.lt_irrefl, Nat.le_refl, Nat.add_zero, Bool.false_eq_true, ↓pu_gI, nd_le, nd_leT, nd_lt, nd_ltT, nd_eq, nd_eqT, kc, e1]
      exact main
  · intro n a hp
    simp (disch := omega) only [Co_weigh_l33, pl_0, pl_1, pl_2, pl_3, pl_4, pl_5, pl_6, pl_7, pl_8, pl_9, pl_10, pl_11, pl_12, pl_13, pl_14, pl_15, pl_16, pl_17, pl_18, pl_19, pl_20, pl_21, pl_30, pl_40, pl_50, pl_51, pl_60, pl_70, pl_71, pl_99, pl_100, pl_160, pl_240, pl_256, pl_300, pl_999, pl_1000, pl_1280, pl_9999, pl_10000, pu_neg, pu_nn, pu_le, pu_lt, pu_eq, pu_cl, pu_in, pu_g, ↓pu_let, ↓pu_bind, pu_m1, pu_add, pu_mul, Nat.not_lt_zero, if_false, if_true, Nat.zero_le, pu_d2, pu_d100, pu_em1, ↓reduceIte, Nat.reduceEqDiff, Nat.reduceLT, Nat.reduceLeDiff, Nat.reduceAdd, Nat.reduceMul, Nat.reduceSub, not_true_eq_false, not_false_eq_true, and_true, true_and, and_false, false_and, or_true, true_or, or_false, false_or, Nat.lt_irrefl, Nat.le_refl, Nat.add_zero, Bool.false_eq_true, ↓pu_gI, nd_le, nd_leT, nd_lt, nd_ltT, nd_eq, nd_eqT]
    exact ⟨a, rfl, hp.2⟩
end COU
