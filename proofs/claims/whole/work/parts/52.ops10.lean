/-! letters, keys, who it was: the calls -/
section LEC
variable {σ : nm_St} {T U : is_T} {E : Nat → Nat → Int64}
theorem md_bol_neg (h : MF σ T U E) (hP : PF T U) {s : Nat} {x : Int32} (hs : s < 8) (hx : x < 0) : Md_barsOfLetter (nI s) x σ = some (if ckN U s = 0 then -nI 4 else -nI (ckN U s), σ) := by
  have k := md_bars_neg h hP hs hx
  unfold Md_barsOfLetter
  rw [k]
  simp only [pl_0, pl_1, pl_2, pl_3, pl_4, pl_5, pl_6, pl_7, pl_8, pl_9, pl_10, pl_11, pl_12, pl_13, pl_14, pl_15, pl_16, pl_17, pl_18, pl_19, pl_20, pl_21, pl_30, pl_40, pl_50, pl_51, pl_60, pl_70, pl_71, pl_99, pl_100, pl_160, pl_240, pl_256, pl_300, pl_999, pl_1000, pl_1280, pl_9999, pl_10000, pu_bind]
  rw [Md_barsOfLetter_l10]
  simp (disch := omega) only [pl_0, pl_1, pl_2, pl_3, pl_4, pl_5, pl_6, pl_7, pl_8, pl_9, pl_10, pl_11, pl_12, pl_13, pl_14, pl_15, pl_16, pl_17, pl_18, pl_19, pl_20, pl_21, pl_30, pl_40, pl_50, pl_51, pl_60, pl_70, pl_71, pl_99, pl_100, pl_160, pl_240, pl_256, pl_300, pl_999, pl_1000, pl_1280, pl_9999, pl_10000, pu_neg, pu_nn, pu_le, pu_lt, pu_eq, pu_cl, pu_in, pu_g, ↓pu_let, ↓pu_bind, pu_m1, pu_add, pu_mul, Nat.not_lt_zero, if_false, if_true, Nat.zero_le, pu_d2, pu_d100, pu_em1, ↓reduceIte, Nat.reduceEqDiff, Nat.reduceLT, Nat.reduceLeDiff, Nat.reduceAdd, Nat.reduceMul, Nat.reduceSub, not_true_eq_false, not_false_eq_true, and_true, true_and, and_false, false_and, or_true, true_or, or_false, false_or, Nat.lt_irrefl, Nat.le_refl, Nat.add_zero, Bool.false_eq_true, ↓pu_gI, nd_le, nd_leT, nd_lt, nd_ltT, nd_eq, nd_eqT, ngl hx, nge hx, ngle hx, nggt hx, ngne hx]
theorem md_bol_bad {p x : Int32} (hp : p < 0 ∨ nI 8 ≤ p) : Md_barsOfLetter p x σ = some (-nI 1, σ) := by
  unfold Md_barsOfLetter
  rw [md_bars_bad hp]
  simp only [pl_0, pl_1, pl_2, pl_3, pl_4, pl_5, pl_6, pl_7, pl_8, pl_9, pl_10, pl_11, pl_12, pl_13, pl_14, pl_15, pl_16, pl_17, pl_18, pl_19, pl_20, pl_21, pl_30, pl_40, pl_50, pl_51, pl_60, pl_70, pl_71, pl_99, pl_100, pl_160, pl_240, pl_256, pl_300, pl_999, pl_1000, pl_1280, pl_9999, pl_10000, pu_bind]
  rw [Md_barsOfLetter_l10]
  by_cases z : x ≤ nI 0
  · simp (disch := omega) only [pl_0, pl_1, pl_2, pl_3, pl_4, pl_5, pl_6, pl_7, pl_8, pl_9, pl_10, pl_11, pl_12, pl_13, pl_14, pl_15, pl_16, pl_17, pl_18, pl_19, pl_20, pl_21, pl_30, pl_40, pl_50, pl_51, pl_60, pl_70, pl_71, pl_99, pl_100, pl_160, pl_240, pl_256, pl_300, pl_999, pl_1000, pl_1280, pl_9999, pl_10000, pu_neg, pu_nn, pu_le, pu_lt, pu_eq, pu_cl, pu_in, pu_g, ↓pu_let, ↓pu_bind, pu_m1, pu_add, pu_mul, Nat.not_lt_zero, if_false, if_true, Nat.zero_le, pu_d2, pu_d100, pu_em1, ↓reduceIte, Nat.reduceEqDiff, Nat.reduceLT, Nat.reduceLeDiff, Nat.reduceAdd, Nat.reduceMul, Nat.reduceSub, not_true_eq_false, not_false_eq_true, and_true, true_and, and_false, false_and, or_true, true_or, or_false, false_or, Nat.lt_irrefl, Nat.le_refl, Nat.add_zero, Bool.false_eq_true, ↓pu_gI, nd_le, nd_leT, nd_lt, nd_ltT, nd_eq, nd_eqT, z]
  · simp (disch := omega) only [pl_0, pl_1, pl_2, pl_3, pl_4, pl_5, pl_6, pl_7, pl_8, pl_9, pl_10, pl_11, pl_12, pl_13, pl_14, pl_15, pl_16, pl_17, pl_18, pl_19, pl_20, pl_21, pl_30, pl_40, pl_50, pl_51, pl_60, pl_70, pl_71, pl_99, pl_100, pl_160, pl_240, pl_256, pl_300, pl_999, pl_1000, pl_1280, pl_9999, pl_10000, pu_neg, pu_nn, pu_le, pu_lt, pu_eq, pu_cl, pu_in, pu_g, ↓pu_let, ↓pu_bind, pu_m1, pu_add, pu_mul, Nat.not_lt_zero, if_false, if_true, Nat.zero_le, pu_d2, pu_d100, pu_em1, ↓reduceIte, Nat.reduceEqDiff, Nat.reduceLT, Nat.reduceLeDiff, Nat.reduceAdd, Nat.reduceMul, Nat.reduceSub, not_true_eq_false, not_false_eq_true, and_true, true_and, and_false, false_and, or_true, true_or, or_false, false_or, Nat.lt_irrefl, Nat.le_refl, Nat.add_zero, Bool.false_eq_true, ↓pu_gI, nd_le, nd_leT, nd_lt, nd_ltT, nd_eq, nd_eqT, z, pu_ng]
theorem let_c (x1 x2 x3 : Int32) {b : Nat} (h1 : 1 ≤ b) (h7 : b ≤ 7) : Nm_letter_j40 x1 x2 x3 (-nI b) σ = some (-nI b, rfC σ b) := by
  unfold Nm_letter_j40
  simp (disch := omega) only [pl_0, pl_1, pl_2, pl_3, pl_4, pl_5, pl_6, pl_7, pl_8, pl_9, pl_10, pl_11, pl_12, pl_13, pl_14, pl_15, pl_16, pl_17, pl_18, pl_19, pl_20, pl_21, pl_30, pl_40, pl_50, pl_51, pl_60, pl_70, pl_71, pl_99, pl_100, pl_160, pl_240, pl_256, pl_300, pl_999, pl_1000, pl_1280, pl_9999, pl_10000, pu_neg, pu_nn, pu_le, pu_lt, pu_eq, pu_cl, pu_in, pu_g, ↓pu_let, ↓pu_bind, pu_m1, pu_add, pu_mul, Nat.not_lt_zero, if_false, if_true, Nat.zero_le, pu_d2, pu_d100, pu_em1, ↓reduceIte, Nat.reduceEqDiff, Nat.reduceLT, Nat.reduceLeDiff, Nat.reduceAdd, Nat.reduceMul, Nat.reduceSub, not_true_eq_false, not_false_eq_true, and_true, true_and, and_false, false_and, or_true, true_or, or_false, false_or, Nat.lt_irrefl, Nat.le_refl, Nat.add_zero, Bool.false_eq_true, ↓pu_gI, nd_le, nd_leT, nd_lt, nd_ltT, nd_eq, nd_eqT, pu_ng, nm_ref]
theorem let_m (x1 x2 x3 : Int32) {b : Nat} (h1 : 1 ≤ b) (h7 : b ≤ 7) : Md_letter_j27 x1 x2 x3 (-nI b) σ = some (-nI b, rfM σ b) := by
  unfold Md_letter_j27
  simp (disch := omega) only [pl_0, pl_1, pl_2, pl_3, pl_4, pl_5, pl_6, pl_7, pl_8, pl_9, pl_10, pl_11, pl_12, pl_13, pl_14, pl_15, pl_16, pl_17, pl_18, pl_19, pl_20, pl_21, pl_30, pl_40, pl_50, pl_51, pl_60, pl_70, pl_71, pl_99, pl_100, pl_160, pl_240, pl_256, pl_300, pl_999, pl_1000, pl_1280, pl_9999, pl_10000, pu_neg, pu_nn, pu_le, pu_lt, pu_eq, pu_cl, pu_in, pu_g, ↓pu_let, ↓pu_bind, pu_m1, pu_add, pu_mul, Nat.not_lt_zero, if_false, if_true, Nat.zero_le, pu_d2, pu_d100, pu_em1, ↓reduceIte, Nat.reduceEqDiff, Nat.reduceLT, Nat.reduceLeDiff, Nat.reduceAdd, Nat.reduceMul, Nat.reduceSub, not_true_eq_false, not_false_eq_true, and_true, true_and, and_false, false_and, or_true, true_or, or_false, false_or, Nat.lt_irrefl, Nat.le_refl, Nat.add_zero, Bool.false_eq_true, ↓pu_gI, nd_le, nd_leT, nd_lt, nd_ltT, nd_eq, nd_eqT, pu_ng, md_no]
theorem key_c (x1 x2 x3 : Int32) {b : Nat} (h1 : 1 ≤ b) (h7 : b ≤ 7) : Nm_keys_j41 x1 x2 x3 (-nI b) σ = some (-nI b, rfC σ b) := by
  unfold Nm_keys_j41
  simp (disch := omega) only [pl_0, pl_1, pl_2, pl_3, pl_4, pl_5, pl_6, pl_7, pl_8, pl_9, pl_10, pl_11, pl_12, pl_13, pl_14, pl_15, pl_16, pl_17, pl_18, pl_19, pl_20, pl_21, pl_30, pl_40, pl_50, pl_51, pl_60, pl_70, pl_71, pl_99, pl_100, pl_160, pl_240, pl_256, pl_300, pl_999, pl_1000, pl_1280, pl_9999, pl_10000, pu_neg, pu_nn, pu_le, pu_lt, pu_eq, pu_cl, pu_in, pu_g, ↓pu_let, ↓pu_bind, pu_m1, pu_add, pu_mul, Nat.not_lt_zero, if_false, if_true, Nat.zero_le, pu_d2, pu_d100, pu_em1, ↓reduceIte, Nat.reduceEqDiff, Nat.reduceLT, Nat.reduceLeDiff, Nat.reduceAdd, Nat.reduceMul, Nat.reduceSub, not_true_eq_false, not_false_eq_true, and_true, true_and, and_false, false_and, or_true, true_or, or_false, false_or, Nat.lt_irrefl, Nat.le_refl, Nat.add_zero, Bool.false_eq_true, ↓pu_gI, nd_le, nd_leT, nd_lt, nd_ltT, nd_eq, nd_eqT, pu_ng, nm_ref]
theorem key_m (x1 x2 x3 : Int32) {b : Nat} (h1 : 1 ≤ b) (h7 : b ≤ 7) : Md_keys_j31 x1 x2 x3 (-nI b) σ = some (-nI b, rfM σ b) := by
  unfold Md_keys_j31
  simp (disch := omega) only [pl_0, pl_1, pl_2, pl_3, pl_4, pl_5, pl_6, pl_7, pl_8, pl_9, pl_10, pl_11, pl_12, pl_13, pl_14, pl_15, pl_16, pl_17, pl_18, pl_19, pl_20, pl_21, pl_30, pl_40, pl_50, pl_51, pl_60, pl_70, pl_71, pl_99, pl_100, pl_160, pl_240, pl_256, pl_300, pl_999, pl_1000, pl_1280, pl_9999, pl_10000, pu_neg, pu_nn, pu_le, pu_lt, pu_eq, pu_cl, pu_in, pu_g, ↓pu_let, ↓pu_bind, pu_m1, pu_add, pu_mul, Nat.not_lt_zero, if_false, if_true, Nat.zero_le, pu_d2, pu_d100, pu_em1, ↓reduceIte, Nat.reduceEqDiff, Nat.reduceLT, Nat.reduceLeDiff, Nat.reduceAdd, Nat.reduceMul, Nat.reduceSub, not_true_eq_false, not_false_eq_true, and_true, true_and, and_false, false_and, or_true, true_or, or_false, false_or, Nat.lt_irrefl, Nat.le_refl, Nat.add_zero, Bool.false_eq_true, ↓pu_gI, nd_le, nd_leT, nd_lt, nd_ltT, nd_eq, nd_eqT, pu_ng, md_no]
/-- the refusals that all calls of n elements have alike -/
theorem pre_cases (hP : PF T U) (p1 p2 : Int32) (Q : Prop) (hf : ∀ b, 1 ≤ b → b ≤ 5 → (∀ σ, CF σ T U E → Nm_checkFirst p1 p2 σ = some (-nI b, σ)) → (∀ σ, MF σ T U E → Md_barsOfLetter p1 p2 σ = some (-nI b, σ)) → (∀ σ, MF σ T U E → Md_barsOf p1 p2 σ = some (-nI b, σ)) → Q) (hg : ∀ s n, s < 8 → n ≤ 160 → p1 = nI s → p2 = nI n → U 0 s = 1 → n ≤ U 2 s → cfN U s n = 0 → Q) : Q := by
  have bad : (p1 < 0 ∨ nI 8 ≤ p1) → Q := fun hb => hf 1 (by omega) (by omega) (fun σ _ => nm_cf_bad hb) (fun σ _ => md_bol_bad hb) (fun σ _ => md_bars_bad hb)
  rcases pu_ix p1 8 (by omega) with h1 | h1 | ⟨s, hs, rfl⟩
  · exact bad (Or.inl h1)
  · exact bad (Or.inr h1)
  have hl := ck_le U s
  by_cases h2 : p2 < 0
  · by_cases c : ckN U s = 0
    · exact hf 4 (by omega) (by omega) (fun σ h => by rw [nm_cf_neg h hP hs h2, if_pos c]) (fun σ h => by rw [md_bol_neg h hP hs h2, if_pos c]) (fun σ h => by rw [md_bars_neg h hP hs h2, if_pos c])
    · exact hf (ckN U s) (by omega) (by omega) (fun σ h => by rw [nm_cf_neg h hP hs h2, if_neg c]) (fun σ h => by rw [md_bol_neg h hP hs h2, if_neg c]) (fun σ h => by rw [md_bars_neg h hP hs h2, if_neg c])
  obtain ⟨n, hn, rfl⟩ := nI_of h2
  have hl2 := cf_le U s n
  by_cases c : cfN U s n = 0
  · obtain ⟨e0, hle⟩ := cf_1 hP hs c
    have := (hP.2 s hs).1.2.2
    exact hg s n hs (by omega) rfl rfl e0 hle c
  · exact hf (cfN U s n) (by omega) (by omega) (fun σ h => by rw [nm_cf h hP hs hn, if_neg c]) (fun σ h => by
      have : lbN U E s n = cfN U s n := if_pos c
      rw [md_bol h hP hs hn, this, if_neg c]) (fun σ h => by rw [md_bars h hP hs hn, if_neg c])
theorem op_letter (hP : PF T U) (p1 p2 p3 : Int32) : OkQ T U E (Nm_letter p1 p2 p3) (Md_letter p1 p2 p3) := by
  have hI := hP.1
  refine pre_cases (E := E) hP p1 p2 _ (fun b h1 h5 hA hB hC => ?_) (fun s n hs hn e1 e2 e0 hle c => ?_)
  · refine qno (b := -nI b) b (by omega) (by omega) (fun σ h => ?_) (fun σ h => ?_)
    · unfold Nm_letter
      exact (bnr (hA σ h) (by omega) (by omega)).trans (let_c _ _ _ (by omega) (by omega))
    · unfold Md_letter
      exact (bnr (hB σ h) (by omega) (by omega)).trans (let_m _ _ _ (by omega) (by omega))
  subst e1 e2
  have kc : ∀ σ, CF σ T U E → Nm_checkFirst (nI s) (nI n) σ = some (nI 0, σ) := fun σ h => by rw [nm_cf h hP hs (by omega), if_pos c]
  have lb : lbN U E s n = if n ≤ 40 ∧ allF (wiB E s 7) n = true then 0 else 6 := if_neg (by omega)
  have six : (p3 < 0 ∨ nI 8 ≤ p3 ∨ ¬ (n ≤ 40 ∧ allF (wiB E s 7) n = true)) → OkQ T U E (Nm_letter (nI s) (nI n) p3) (Md_letter (nI s) (nI n) p3) := fun hb => by
    refine qno (b := -nI 6) 6 (by omega) (by omega) (fun σ h => ?_) (fun σ h => ?_)
    · unfold Nm_letter
      refine (bn0 (kc σ h)).trans ?_
      by_cases k : p3 < 0 ∨ nI 8 ≤ p3
      · have kw : Nm_isWithin p3 (nI 0) (nI 7) σ = some (nI 0, σ) := by
          rcases k with k | k
          · simp (disch := omega) only [Nm_isWithin, pl_0, pl_1, pl_2, pl_3, pl_4, pl_5, pl_6, pl_7, pl_8, pl_9, pl_10, pl_11, pl_12, pl_13, pl_14, pl_15, pl_16, pl_17, pl_18, pl_19, pl_20, pl_21, pl_30, pl_40, pl_50, pl_51, pl_60, pl_70, pl_71, pl_99, pl_100, pl_160, pl_240, pl_256, pl_300, pl_999, pl_1000, pl_1280, pl_9999, pl_10000, pu_neg, pu_nn, pu_le, pu_lt, pu_eq, pu_cl, pu_in, pu_g, ↓pu_let, ↓pu_bind, pu_m1, pu_add, pu_mul, Nat.not_lt_zero, if_false, if_true, Nat.zero_le, pu_d2, pu_d100, pu_em1, ↓reduceIte, Nat.reduceEqDiff, Nat.reduceLT, Nat.reduceLeDiff, Nat.reduceAdd, Nat.reduceMul, Nat.reduceSub, not_true_eq_false, not_false_eq_true, and_true, true_and, and_false, false_and, or_true, true_or, or_false, false_or, Nat.lt_irrefl, Nat.le_refl, Nat.add_zero, Bool.false_eq_true, ↓pu_gI, nd_le, nd_leT, nd_lt, nd_ltT, nd_eq, nd_eqT, ngl k, nge k, ngle k, nggt k, ngne k]
          · simp (disch := omega) only [Nm_isWithin, pl_0, pl_1, pl_2, pl_3, pl_4, pl_5, pl_6, pl_7, pl_8, pl_9, pl_10, pl_11, pl_12, pl_13, pl_14, pl_15, pl_16, pl_17, pl_18, pl_19, pl_20, pl_21, pl_30, pl_40, pl_50, pl_51, pl_60, pl_70, pl_71, pl_99, pl_100, pl_160, pl_240, pl_256, pl_300, pl_999, pl_1000, pl_1280, pl_9999, pl_10000, pu_neg, pu_nn, pu_le, pu_lt, pu_eq, pu_cl, pu_in, pu_g, ↓pu_let, ↓pu_bind, pu_m1, pu_add, pu_mul, Nat.not_lt_zero, if_false, if_true, Nat.zero_le, pu_d2, pu_d100, pu_em1, ↓reduceIte, Nat.reduceEqDiff, Nat.reduceLT, Nat.reduceLeDiff, Nat.reduceAdd, Nat.reduceMul, Nat.reduceSub, not_true_eq_false, not_false_eq_true, and_true, true_and, and_false, false_and, or_true, true_or, or_false, false_or, Nat.lt_irrefl, Nat.le_refl, Nat.add_zero, Bool.false_eq_true, ↓pu_gI, nd_le, nd_leT, nd_lt, nd_ltT, nd_eq, nd_eqT, bgl k, bge k, bgle k, bggt k, bgne k, bgm1 k]
        exact (bn0 kw).trans (let_c _ _ _ (b := 6) (by omega) (by omega))
      · have hnl : ¬ (n ≤ 40 ∧ allF (wiB E s 7) n = true) := by
          rcases hb with hb | hb | hb
          · exact absurd (Or.inl hb) k
          · exact absurd (Or.inr hb) k
          · exact hb
        have kw : Nm_isWithin p3 (nI 0) (nI 7) σ = some (nI 1, σ) := by
          rcases pu_ix p3 8 (by omega) with h1 | h1 | ⟨key, hk, rfl⟩
          · exact absurd (Or.inl h1) k
          · exact absurd (Or.inr h1) k
          · simp (disch := omega) only [Nm_isWithin, pl_0, pl_1, pl_2, pl_3, pl_4, pl_5, pl_6, pl_7, pl_8, pl_9, pl_10, pl_11, pl_12, pl_13, pl_14, pl_15, pl_16, pl_17, pl_18, pl_19, pl_20, pl_21, pl_30, pl_40, pl_50, pl_51, pl_60, pl_70, pl_71, pl_99, pl_100, pl_160, pl_240, pl_256, pl_300, pl_999, pl_1000, pl_1280, pl_9999, pl_10000, pu_neg, pu_nn, pu_le, pu_lt, pu_eq, pu_cl, pu_in, pu_g, ↓pu_let, ↓pu_bind, pu_m1, pu_add, pu_mul, Nat.not_lt_zero, if_false, if_true, Nat.zero_le, pu_d2, pu_d100, pu_em1, ↓reduceIte, Nat.reduceEqDiff, Nat.reduceLT, Nat.reduceLeDiff, Nat.reduceAdd, Nat.reduceMul, Nat.reduceSub, not_true_eq_false, not_false_eq_true, and_true, true_and, and_false, false_and, or_true, true_or, or_false, false_or, Nat.lt_irrefl, Nat.le_refl, Nat.add_zero, Bool.false_eq_true, ↓pu_gI, nd_le, nd_leT, nd_lt, nd_ltT, nd_eq, nd_eqT]
        have kl := nm_isLetter h hP hs hle
        rw [if_neg hnl] at kl
        refine (bn1 kw).trans ((gin hs (by omega)).trans ?_)
        rw [sf_n (by omega)]
        exact (bn0 kl).trans (let_c _ _ _ (b := 6) (by omega) (by omega))
    · have kb := md_bol h hP hs (show n < 2147483648 by omega)
      unfold Md_letter
      by_cases z : n ≤ 40 ∧ allF (wiB E s 7) n = true
      · rw [lb, if_pos z] at kb
        refine (bn0 kb).trans ?_
        rcases hb with hb | hb | hb
        · rw [if_pos hb]
          exact let_m _ _ _ (b := 6) (by omega) (by omega)
        · have g1 : ¬ p3 < 0 := fun q => by
            have := bgl hb (show 8 < 2147483648 by omega) (show 0 ≤ 8 by omega)
            rw [nI_0] at this
            rw [this] at q
            exact q
          have g2 : ¬ p3 ≤ 7 := fun q => by
            have := bgle hb (show 8 < 2147483648 by omega) (show 7 < 8 by omega)
            rw [show (7 : Int32) = nI 7 from rfl, this] at q
            exact q
          rw [if_neg g1, if_neg g2]
          exact let_m _ _ _ (b := 6) (by omega) (by omega)
        · exact absurd z hb
      · rw [lb, if_neg z] at kb
        exact (bnr (n := 6) kb (by omega) (by omega)).trans (let_m _ _ _ (b := 6) (by omega) (by omega))
  rcases pu_ix p3 8 (by omega) with h1 | h1 | ⟨key, hk, rfl⟩
  · exact six (Or.inl h1)
  · exact six (Or.inr (Or.inl h1))
  by_cases z : n ≤ 40 ∧ allF (wiB E s 7) n = true
  · refine qeq (nI (tolN T E s key n)) (fun σ h => ?_) (fun σ h => ?_)
    · have kw : Nm_isWithin (nI key) (nI 0) (nI 7) σ = some (nI 1, σ) := by
        simp (disch := omega) only [Nm_isWithin, pl_0, pl_1, pl_2, pl_3, pl_4, pl_5, pl_6, pl_7, pl_8, pl_9, pl_10, pl_11, pl_12, pl_13, pl_14, pl_15, pl_16, pl_17, pl_18, pl_19, pl_20, pl_21, pl_30, pl_40, pl_50, pl_51, pl_60, pl_70, pl_71, pl_99, pl_100, pl_160, pl_240, pl_256, pl_300, pl_999, pl_1000, pl_1280, pl_9999, pl_10000, pu_neg, pu_nn, pu_le, pu_lt, pu_eq, pu_cl, pu_in, pu_g, ↓pu_let, ↓pu_bind, pu_m1, pu_add, pu_mul, Nat.not_lt_zero, if_false, if_true, Nat.zero_le, pu_d2, pu_d100, pu_em1, ↓reduceIte, Nat.reduceEqDiff, Nat.reduceLT, Nat.reduceLeDiff, Nat.reduceAdd, Nat.reduceMul, Nat.reduceSub, not_true_eq_false, not_false_eq_true, and_true, true_and, and_false, false_and, or_true, true_or, or_false, false_or, Nat.lt_irrefl, Nat.le_refl, Nat.add_zero, Bool.false_eq_true, ↓pu_gI, nd_le, nd_leT, nd_lt, nd_ltT, nd_eq, nd_eqT]
      have kl := nm_isLetter h hP hs hle
      rw [if_pos z] at kl
      unfold Nm_letter
      refine (bn0 (kc σ h)).trans ((bn1 kw).trans ((gin hs (by omega)).trans ?_))
      rw [sf_n (by omega)]
      refine (bn1 kl).trans ?_
      unfold Nm_letter_j40
      rw [if_pos nI_0]
      refine (gin hs (by omega)).trans ?_
      rw [sf_n (by omega), nm_told h hP hs hle hk z.2]
      rfl
    · have kb := md_bol h hP hs (show n < 2147483648 by omega)
      rw [lb, if_pos z] at kb
      unfold Md_letter
      refine (bn0 kb).trans ?_
      simp (disch := omega) only [Md_letter_j27, pl_0, pl_1, pl_2, pl_3, pl_4, pl_5, pl_6, pl_7, pl_8, pl_9, pl_10, pl_11, pl_12, pl_13, pl_14, pl_15, pl_16, pl_17, pl_18, pl_19, pl_20, pl_21, pl_30, pl_40, pl_50, pl_51, pl_60, pl_70, pl_71, pl_99, pl_100, pl_160, pl_240, pl_256, pl_300, pl_999, pl_1000, pl_1280, pl_9999, pl_10000, pu_neg, pu_nn, pu_le, pu_lt, pu_eq, pu_cl, pu_in, pu_g, ↓pu_let, ↓pu_bind, pu_m1, pu_add, pu_mul, Nat.not_lt_zero, if_false, if_true, Nat.zero_le, pu_d2, pu_d100, pu_em1, ↓reduceIte, Nat.reduceEqDiff, Nat.reduceLT, Nat.reduceLeDiff, Nat.reduceAdd, Nat.reduceMul, Nat.reduceSub, not_true_eq_false, not_false_eq_true, and_true, true_and, and_false, false_and, or_true, true_or, or_false, false_or, Nat.lt_irrefl, Nat.le_refl, Nat.add_zero, Bool.false_eq_true, ↓pu_gI, nd_le, nd_leT, nd_lt, nd_ltT, nd_eq, nd_eqT, md_told h hP hs hle hk z.2]
  · exact six (Or.inr (Or.inr z))
theorem op_keys (hP : PF T U) (p1 p2 p3 : Int32) : OkQ T U E (Nm_keys p1 p2 p3) (Md_keys p1 p2 p3) := by
  have hI := hP.1
  have hp := hI.2.1
  refine pre_cases (E := E) hP p1 p2 _ (fun b h1 h5 hA hB hC => ?_) (fun s n hs hn e1 e2 e0 hle c => ?_)
  · refine qno (b := -nI b) b (by omega) (by omega) (fun σ h => ?_) (fun σ h => ?_)
    · unfold Nm_keys
      exact (bnr (hA σ h) (by omega) (by omega)).trans (key_c _ _ _ (by omega) (by omega))
    · unfold Md_keys
      exact (bnr (hB σ h) (by omega) (by omega)).trans (key_m _ _ _ (by omega) (by omega))
  subst e1 e2
  have kc : ∀ σ, CF σ T U E → Nm_checkFirst (nI s) (nI n) σ = some (nI 0, σ) := fun σ h => by rw [nm_cf h hP hs (by omega), if_pos c]
  have lb : lbN U E s n = if n ≤ 40 ∧ allF (wiB E s 7) n = true then 0 else 6 := if_neg (by omega)
  have h2p := pu_p2 hp.2
  have kar : ∀ σ, CF σ T U E → Is_areParts 2 p3 σ = some (nI (if un p3 < 2 ^ T 0 7 then 1 else 0), σ) := fun σ h => by
    unfold Is_areParts
    simp (disch := omega) only [pl_0, pl_1, pl_2, pl_3, pl_4, pl_5, pl_6, pl_7, pl_8, pl_9, pl_10, pl_11, pl_12, pl_13, pl_14, pl_15, pl_16, pl_17, pl_18, pl_19, pl_20, pl_21, pl_30, pl_40, pl_50, pl_51, pl_60, pl_70, pl_71, pl_99, pl_100, pl_160, pl_240, pl_256, pl_300, pl_999, pl_1000, pl_1280, pl_9999, pl_10000, pu_neg, pu_nn, pu_le, pu_lt, pu_eq, pu_cl, pu_in, pu_g, ↓pu_let, ↓pu_bind, pu_m1, pu_add, pu_mul, Nat.not_lt_zero, if_false, if_true, Nat.zero_le, pu_d2, pu_d100, pu_em1, ↓reduceIte, Nat.reduceEqDiff, Nat.reduceLT, Nat.reduceLeDiff, Nat.reduceAdd, Nat.reduceMul, Nat.reduceSub, not_true_eq_false, not_false_eq_true, and_true, true_and, and_false, false_and, or_true, true_or, or_false, false_or, Nat.lt_irrefl, Nat.le_refl, Nat.add_zero, Bool.false_eq_true, ↓pu_gI, nd_le, nd_leT, nd_lt, nd_ltT, nd_eq, nd_eqT, is_allParts h.1 hI, sub_x p3 hp.2]
    by_cases z : un p3 < 2 ^ T 0 7 <;> simp [z]
  have shl : ∀ σ, MF σ T U E → (1 : Int32) <<< ((σ.1 70 1) &&& 31) = nI (2 ^ T 0 7) := fun σ h => by
    rw [h.1.p, show (1 : Int32) = nI 1 from rfl, pu_shl _ (by omega)]
  by_cases z : (un p3 < 2 ^ T 0 7) ∧ (n ≤ 40 ∧ allF (wiB E s 7) n = true)
  · obtain ⟨z1, z⟩ := z
    have e3 : p3 = nI (un p3) := rg_t p3
    generalize hj : un p3 = j at z1 e3
    subst e3
    refine qeq (nI (bts (fun key => decide (tolN T E s key n = j)) 8)) (fun σ h => ?_) (fun σ h => ?_)
    · have ka := kar σ h
      rw [hj, if_pos z1] at ka
      have kl := nm_isLetter h hP hs hle
      rw [if_pos z] at kl
      unfold Nm_keys
      refine (bn0 (kc σ h)).trans ((bn1 ka).trans ((gin hs (by omega)).trans ?_))
      rw [sf_n (by omega)]
      refine (bn1 kl).trans ?_
      unfold Nm_keys_j41
      rw [if_pos nI_0]
      simp only [pl_0, pl_1, pl_2, pl_3, pl_4, pl_5, pl_6, pl_7, pl_8, pl_9, pl_10, pl_11, pl_12, pl_13, pl_14, pl_15, pl_16, pl_17, pl_18, pl_19, pl_20, pl_21, pl_30, pl_40, pl_50, pl_51, pl_60, pl_70, pl_71, pl_99, pl_100, pl_160, pl_240, pl_256, pl_300, pl_999, pl_1000, pl_1280, pl_9999, pl_10000]
      refine lp_Q (fun n' i (_ : Unit) => Nm_keys_l59 _ n' (nI s) (nI n) (nI j) (nI (bts (fun key => decide (tolN T E s key n = j)) i)) (nI i) σ) 8 (fun i _ => True) (fun r => r = some (nI (bts (fun key => decide (tolN T E s key n = j)) 8), σ)) ?_ ?_ 400 0 () (by omega) trivial (by omega)
      · intro n' i _ hi _ ih
        have hs2 := ih () trivial
        have kt := nm_told h hP hs hle hi z.2
        have ht := tol_lt hI E s i n
        have hb := bts_lt (fun key => decide (tolN T E s key n = j)) i
        by_cases y : tolN T E s i n = j
        · rw [bts_t (by simp [y])] at hs2
          simp (disch := omega) only [Nm_keys_l59, pl_0, pl_1, pl_2, pl_3, pl_4, pl_5, pl_6, pl_7, pl_8, pl_9, pl_10, pl_11, pl_12, pl_13, pl_14, pl_15, pl_16, pl_17, pl_18, pl_19, pl_20, pl_21, pl_30, pl_40, pl_50, pl_51, pl_60, pl_70, pl_71, pl_99, pl_100, pl_160, pl_240, pl_256, pl_300, pl_999, pl_1000, pl_1280, pl_9999, pl_10000, pu_neg, pu_nn, pu_le, pu_lt, pu_eq, pu_cl, pu_in, pu_g, ↓pu_let, ↓pu_bind, pu_m1, pu_add, pu_mul, Nat.not_lt_zero, if_false, if_true, Nat.zero_le, pu_d2, pu_d100, pu_em1, ↓reduceIte, Nat.reduceEqDiff, Nat.reduceLT, Nat.reduceLeDiff, Nat.reduceAdd, Nat.reduceMul, Nat.reduceSub, not_true_eq_false, not_false_eq_true, and_true, true_and, and_false, false_and, or_true, true_or, or_false, false_or, Nat.lt_irrefl, Nat.le_refl, Nat.add_zero, Bool.false_eq_true, ↓pu_gI, nd_le, nd_leT, nd_lt, nd_ltT, nd_eq, nd_eqT, sf_n, kt, pu_shl, fa_or, pu_orbit hb]
          exact hs2
        · rw [bts_f (by simp [y])] at hs2
          simp (disch := omega) only [Nm_keys_l59, pl_0, pl_1, pl_2, pl_3, pl_4, pl_5, pl_6, pl_7, pl_8, pl_9, pl_10, pl_11, pl_12, pl_13, pl_14, pl_15, pl_16, pl_17, pl_18, pl_19, pl_20, pl_21, pl_30, pl_40, pl_50, pl_51, pl_60, pl_70, pl_71, pl_99, pl_100, pl_160, pl_240, pl_256, pl_300, pl_999, pl_1000, pl_1280, pl_9999, pl_10000, pu_neg, pu_nn, pu_le, pu_lt, pu_eq, pu_cl, pu_in, pu_g, ↓pu_let, ↓pu_bind, pu_m1, pu_add, pu_mul, Nat.not_lt_zero, if_false, if_true, Nat.zero_le, pu_d2, pu_d100, pu_em1, ↓reduceIte, Nat.reduceEqDiff, Nat.reduceLT, Nat.reduceLeDiff, Nat.reduceAdd, Nat.reduceMul, Nat.reduceSub, not_true_eq_false, not_false_eq_true, and_true, true_and, and_false, false_and, or_true, true_or, or_false, false_or, Nat.lt_irrefl, Nat.le_refl, Nat.add_zero, Bool.false_eq_true, ↓pu_gI, nd_le, nd_leT, nd_lt, nd_ltT, nd_eq, nd_eqT, sf_n, kt]
          exact hs2
      · intro n' _ _
        simp (disch := omega) only [Nm_keys_l59, pl_0, pl_1, pl_2, pl_3, pl_4, pl_5, pl_6, pl_7, pl_8, pl_9, pl_10, pl_11, pl_12, pl_13, pl_14, pl_15, pl_16, pl_17, pl_18, pl_19, pl_20, pl_21, pl_30, pl_40, pl_50, pl_51, pl_60, pl_70, pl_71, pl_99, pl_100, pl_160, pl_240, pl_256, pl_300, pl_999, pl_1000, pl_1280, pl_9999, pl_10000, pu_neg, pu_nn, pu_le, pu_lt, pu_eq, pu_cl, pu_in, pu_g, ↓pu_let, ↓pu_bind, pu_m1, pu_add, pu_mul, Nat.not_lt_zero, if_false, if_true, Nat.zero_le, pu_d2, pu_d100, pu_em1, ↓reduceIte, Nat.reduceEqDiff, Nat.reduceLT, Nat.reduceLeDiff, Nat.reduceAdd, Nat.reduceMul, Nat.reduceSub, not_true_eq_false, not_false_eq_true, and_true, true_and, and_false, false_and, or_true, true_or, or_false, false_or, Nat.lt_irrefl, Nat.le_refl, Nat.add_zero, Bool.false_eq_true, ↓pu_gI, nd_le, nd_leT, nd_lt, nd_ltT, nd_eq, nd_eqT]
    · have kb := md_bol h hP hs (show n < 2147483648 by omega)
      rw [lb, if_pos z] at kb
      unfold Md_keys
      refine (bn0 kb).trans ?_
      rw [if_neg (nI_pos (by omega)), shl σ h, if_pos (nI_lt z1 (by omega))]
      unfold Md_keys_j31
      rw [if_pos nI_0]
      simp only [pl_0, pl_1, pl_2, pl_3, pl_4, pl_5, pl_6, pl_7, pl_8, pl_9, pl_10, pl_11, pl_12, pl_13, pl_14, pl_15, pl_16, pl_17, pl_18, pl_19, pl_20, pl_21, pl_30, pl_40, pl_50, pl_51, pl_60, pl_70, pl_71, pl_99, pl_100, pl_160, pl_240, pl_256, pl_300, pl_999, pl_1000, pl_1280, pl_9999, pl_10000]
      refine lp_Q (fun n' i (_ : Unit) => Md_keys_l49 _ n' (nI s) (nI n) (nI j) (nI (bts (fun key => decide (tolN T E s key n = j)) i)) (nI i) σ) 8 (fun i _ => True) (fun r => r = some (nI (bts (fun key => decide (tolN T E s key n = j)) 8), σ)) ?_ ?_ 400 0 () (by omega) trivial (by omega)
      · intro n' i _ hi _ ih
        have hs2 := ih () trivial
        have kt := md_told h hP hs hle hi z.2
        have ht := tol_lt hI E s i n
        have hb := bts_lt (fun key => decide (tolN T E s key n = j)) i
        by_cases y : tolN T E s i n = j
        · rw [bts_t (by simp [y])] at hs2
          simp (disch := omega) only [Md_keys_l49, pl_0, pl_1, pl_2, pl_3, pl_4, pl_5, pl_6, pl_7, pl_8, pl_9, pl_10, pl_11, pl_12, pl_13, pl_14, pl_15, pl_16, pl_17, pl_18, pl_19, pl_20, pl_21, pl_30, pl_40, pl_50, pl_51, pl_60, pl_70, pl_71, pl_99, pl_100, pl_160, pl_240, pl_256, pl_300, pl_999, pl_1000, pl_1280, pl_9999, pl_10000, pu_neg, pu_nn, pu_le, pu_lt, pu_eq, pu_cl, pu_in, pu_g, ↓pu_let, ↓pu_bind, pu_m1, pu_add, pu_mul, Nat.not_lt_zero, if_false, if_true, Nat.zero_le, pu_d2, pu_d100, pu_em1, ↓reduceIte, Nat.reduceEqDiff, Nat.reduceLT, Nat.reduceLeDiff, Nat.reduceAdd, Nat.reduceMul, Nat.reduceSub, not_true_eq_false, not_false_eq_true, and_true, true_and, and_false, false_and, or_true, true_or, or_false, false_or, Nat.lt_irrefl, Nat.le_refl, Nat.add_zero, Bool.false_eq_true, ↓pu_gI, nd_le, nd_leT, nd_lt, nd_ltT, nd_eq, nd_eqT, kt, pu_shl, fa_or, pu_orbit hb]
          exact hs2
        · rw [bts_f (by simp [y])] at hs2
          simp (disch := omega) only [Md_keys_l49, pl_0, pl_1, pl_2, pl_3, pl_4, pl_5, pl_6, pl_7, pl_8, pl_9, pl_10, pl_11, pl_12, pl_13, pl_14, pl_15, pl_16, pl_17, pl_18, pl_19, pl_20, pl_21, pl_30, pl_40, pl_50, pl_51, pl_60, pl_70, pl_71, pl_99, pl_100, pl_160, pl_240, pl_256, pl_300, pl_999, pl_1000, pl_1280, pl_9999, pl_10000, pu_neg, pu_nn, pu_le, pu_lt, pu_eq, pu_cl, pu_in, pu_g, ↓pu_let, ↓pu_bind, pu_m1, pu_add, pu_mul, Nat.not_lt_zero, if_false, if_true, Nat.zero_le, pu_d2, pu_d100, pu_em1, ↓reduceIte, Nat.reduceEqDiff, Nat.reduceLT, Nat.reduceLeDiff, Nat.reduceAdd, Nat.reduceMul, Nat.reduceSub, not_true_eq_false, not_false_eq_true, and_true, true_and, and_false, false_and, or_true, true_or, or_false, false_or, Nat.lt_irrefl, Nat.le_refl, Nat.add_zero, Bool.false_eq_true, ↓pu_gI, nd_le, nd_leT, nd_lt, nd_ltT, nd_eq, nd_eqT, kt]
          exact hs2
      · intro n' _ _
        simp (disch := omega) only [Md_keys_l49, pl_0, pl_1, pl_2, pl_3, pl_4, pl_5, pl_6, pl_7, pl_8, pl_9, pl_10, pl_11, pl_12, pl_13, pl_14, pl_15, pl_16, pl_17, pl_18, pl_19, pl_20, pl_21, pl_30, pl_40, pl_50, pl_51, pl_60, pl_70, pl_71, pl_99, pl_100, pl_160, pl_240, pl_256, pl_300, pl_999, pl_1000, pl_1280, pl_9999, pl_10000, pu_neg, pu_nn, pu_le, pu_lt, pu_eq, pu_cl, pu_in, pu_g, ↓pu_let, ↓pu_bind, pu_m1, pu_add, pu_mul, Nat.not_lt_zero, if_false, if_true, Nat.zero_le, pu_d2, pu_d100, pu_em1, ↓reduceIte, Nat.reduceEqDiff, Nat.reduceLT, Nat.reduceLeDiff, Nat.reduceAdd, Nat.reduceMul, Nat.reduceSub, not_true_eq_false, not_false_eq_true, and_true, true_and, and_false, false_and, or_true, true_or, or_false, false_or, Nat.lt_irrefl, Nat.le_refl, Nat.add_zero, Bool.false_eq_true, ↓pu_gI, nd_le, nd_leT, nd_lt, nd_ltT, nd_eq, nd_eqT]
  · refine qno (b := -nI 6) 6 (by omega) (by omega) (fun σ h => ?_) (fun σ h => ?_)
    · have ka := kar σ h
      unfold Nm_keys
      refine (bn0 (kc σ h)).trans ?_
      by_cases z1 : un p3 < 2 ^ T 0 7
      · rw [if_pos z1] at ka
        have kl := nm_isLetter h hP hs hle
        rw [if_neg (fun q => z ⟨z1, q⟩)] at kl
        refine (bn1 ka).trans ((gin hs (by omega)).trans ?_)
        rw [sf_n (by omega)]
        exact (bn0 kl).trans (key_c _ _ _ (b := 6) (by omega) (by omega))
      · rw [if_neg z1] at ka
        exact (bn0 ka).trans (key_c _ _ _ (b := 6) (by omega) (by omega))
    · have kb := md_bol h hP hs (show n < 2147483648 by omega)
      unfold Md_keys
      by_cases z2 : n ≤ 40 ∧ allF (wiB E s 7) n = true
      · rw [lb, if_pos z2] at kb
        refine (bn0 kb).trans ?_
        have z1 : ¬ un p3 ≤ 2 ^ T 0 7 - 1 := fun q => z ⟨by omega, z2⟩
        rcases rg_f (by omega) z1 with hx | hx
        · rw [if_pos hx]
          exact key_m _ _ _ (b := 6) (by omega) (by omega)
        · rw [show 2 ^ T 0 7 - 1 + 1 = 2 ^ T 0 7 by omega] at hx
          have g1 : ¬ p3 < 0 := fun q => by
            have := bgl hx (by omega) (Nat.zero_le _)
            rw [nI_0] at this
            rw [this] at q
            exact q
          have g2 : ¬ p3 < nI (2 ^ T 0 7) := fun q => by
            have := bgl hx (by omega) (Nat.le_refl _)
            rw [this] at q
            exact q
          rw [if_neg g1, shl σ h, if_neg g2]
          exact key_m _ _ _ (b := 6) (by omega) (by omega)
      · rw [lb, if_neg z2] at kb
        exact (bnr (n := 6) kb (by omega) (by omega)).trans (key_m _ _ _ (b := 6) (by omega) (by omega))
end LEC
