/-! the class's reader: words -/
theorem js_len {w : Nat} (hw : w < 8) (s : nm_St) : Js_length (2000 + w) s = some (nI (wdL w).length, s) := by
  have e : ∀ w, w < 8 → (Int32.ofNat (nm_slen.getD (2000 + w - 2000) 0) >>> ((0 : Int32) &&& 31)) = nI (wdL w).length := by decide +kernel
  have n1 : ¬ ((1 : Int32) = 0) := by decide
  unfold Js_length Js_coder
  rw [if_neg n1, pu_bind, e w hw]
theorem js_ch {w i : Nat} (hw : w < 8) (hi : i < (wdL w).length) (s : nm_St) : Js_charAt (2000 + w) (nI i) s = some (nI ((wdL w).getD i 0), s) := by
  have l := wd_len w hw
  have e1 : ∀ w, w < 8 → nm_slen.getD (2000 + w - 2000) 0 = (wdL w).length := by decide
  have e2 : ∀ w, w < 8 → ∀ i, i < 5 → UInt32.toInt32 (Int32.toUInt32 (((nm_sbyt.getD (2000 + w - 2000) []).getD i 0) &&& (255 : Int32)) % 65536) = nI ((wdL w).getD i 0) := by decide +kernel
  have e3 : ∀ w, w < 8 → ∀ i, i < 5 → nm_chz (nI ((wdL w).getD i 0)) = true := by decide +kernel
  have n1 : ¬ ((1 : Int32) = 0) := by decide
  have n0 : (0 : Int32) = 0 := rfl
  have k1 : Js_isLatin1 (2000 + w) s = some ((1 : Int32), s) := by
    unfold Js_isLatin1
    rw [if_neg n1, if_pos n0]
  have k2 : Js_checkIndex (nI i) (Int32.ofNat (nm_slen.getD (2000 + w - 2000) 0)) s = some ((), s) := by
    rw [e1 w hw, show Int32.ofNat (wdL w).length = nI (wdL w).length from rfl]
    unfold Js_checkIndex Jp_checkIndex
    simp (disch := omega) only [pl_0, pl_1, pl_2, pl_3, pl_4, pl_5, pl_6, pl_7, pl_8, pl_9, pl_10, pl_11, pl_12, pl_13, pl_14, pl_15, pl_16, pl_17, pl_18, pl_19, pl_20, pl_21, pl_30, pl_40, pl_50, pl_51, pl_60, pl_70, pl_71, pl_99, pl_100, pl_160, pl_240, pl_256, pl_300, pl_999, pl_1000, pl_1280, pl_9999, pl_10000, pu_neg, pu_nn, pu_le, pu_lt, pu_eq, pu_cl, pu_in, pu_g, ↓pu_let, ↓pu_bind, pu_m1, pu_add, pu_mul, Nat.not_lt_zero, if_false, if_true, Nat.zero_le, pu_d2, pu_d100, pu_em1, ↓reduceIte, Nat.reduceEqDiff, Nat.reduceLT, Nat.reduceLeDiff, Nat.reduceAdd, Nat.reduceMul, Nat.reduceSub, not_true_eq_false, not_false_eq_true, and_true, true_and, and_false, false_and, or_true, true_or, or_false, false_or, Nat.lt_irrefl, Nat.le_refl, Nat.add_zero, Bool.false_eq_true, ↓pu_gI, nd_le, nd_leT, nd_lt, nd_ltT, nd_eq, nd_eqT]
  have k3 : Jl_charAt (2000 + w) (nI i) s = some (nI ((wdL w).getD i 0), s) := by
    unfold Jl_charAt
    rw [k2, pu_bind, e1 w hw, gin hi (by omega), nI_clamp (by omega), e2 w hw i (by omega), e3 w hw i (by omega), pu_g]
  unfold Js_charAt
  rw [k1, pu_bind, if_neg n1, k3, pu_bind, e3 w hw i (by omega), pu_g]
section RDE
variable {g : Nat → Int32} {N : Nat} {σ a : nm_St} {p c : Nat} {f : Int32} {T : is_T}
theorem tr_lets (h : TxC g N σ a p f c T) {w : Nat} (hw : w < 8) (hp : p ≤ N) : Tr_lettersOf (2000 + w) a = some (nI (ltN g N p (wdL w)), a) := by
  have hN := h.2.2.2.2
  have l := wd_len w hw
  have hl := lt_le g N (wdL w) p
  have kl := js_len hw a
  unfold Tr_lettersOf
  simp only [pl_0, pl_1, pl_2, pl_3, pl_4, pl_5, pl_6, pl_7, pl_8, pl_9, pl_10, pl_11, pl_12, pl_13, pl_14, pl_15, pl_16, pl_17, pl_18, pl_19, pl_20, pl_21, pl_30, pl_40, pl_50, pl_51, pl_60, pl_70, pl_71, pl_99, pl_100, pl_160, pl_240, pl_256, pl_300, pl_999, pl_1000, pl_1280, pl_9999, pl_10000]
  refine lp_Q (fun n' i (_ : Unit) => Tr_lettersOf_l4 (2000 + w) _ n' (nI i) (nI i) a) (ltN g N p (wdL w)) (fun _ _ => True) (fun r => r = some (nI (ltN g N p (wdL w)), a)) ?_ ?_ 400 0 () (by omega) trivial (by omega)
  · intro n' i _ hi _ ih
    have hs2 := ih () trivial
    have kc := js_ch hw (i := i) (by omega) a
    have kh := tr_has h (q := p + i) (s := (wdL w).getD i 0) (by omega)
    rw [if_pos (lt_at (wdL w) p i hi)] at kh
    simp (disch := omega) only [Tr_lettersOf_l4, pl_0, pl_1, pl_2, pl_3, pl_4, pl_5, pl_6, pl_7, pl_8, pl_9, pl_10, pl_11, pl_12, pl_13, pl_14, pl_15, pl_16, pl_17, pl_18, pl_19, pl_20, pl_21, pl_30, pl_40, pl_50, pl_51, pl_60, pl_70, pl_71, pl_99, pl_100, pl_160, pl_240, pl_256, pl_300, pl_999, pl_1000, pl_1280, pl_9999, pl_10000, pu_neg, pu_nn, pu_le, pu_lt, pu_eq, pu_cl, pu_in, pu_g, ↓pu_let, ↓pu_bind, pu_m1, pu_add, pu_mul, Nat.not_lt_zero, if_false, if_true, Nat.zero_le, pu_d2, pu_d100, pu_em1, ↓reduceIte, Nat.reduceEqDiff, Nat.reduceLT, Nat.reduceLeDiff, Nat.reduceAdd, Nat.reduceMul, Nat.reduceSub, not_true_eq_false, not_false_eq_true, and_true, true_and, and_false, false_and, or_true, true_or, or_false, false_or, Nat.lt_irrefl, Nat.le_refl, Nat.add_zero, Bool.false_eq_true, ↓pu_gI, nd_le, nd_leT, nd_lt, nd_ltT, nd_eq, nd_eqT, kl, kc, h.1.2.1, kh]
    exact hs2
  · intro n' _ _
    by_cases z : ltN g N p (wdL w) = (wdL w).length
    · rw [z]
      simp (disch := omega) only [Tr_lettersOf_l4, pl_0, pl_1, pl_2, pl_3, pl_4, pl_5, pl_6, pl_7, pl_8, pl_9, pl_10, pl_11, pl_12, pl_13, pl_14, pl_15, pl_16, pl_17, pl_18, pl_19, pl_20, pl_21, pl_30, pl_40, pl_50, pl_51, pl_60, pl_70, pl_71, pl_99, pl_100, pl_160, pl_240, pl_256, pl_300, pl_999, pl_1000, pl_1280, pl_9999, pl_10000, pu_neg, pu_nn, pu_le, pu_lt, pu_eq, pu_cl, pu_in, pu_g, ↓pu_let, ↓pu_bind, pu_m1, pu_add, pu_mul, Nat.not_lt_zero, if_false, if_true, Nat.zero_le, pu_d2, pu_d100, pu_em1, ↓reduceIte, Nat.reduceEqDiff, Nat.reduceLT, Nat.reduceLeDiff, Nat.reduceAdd, Nat.reduceMul, Nat.reduceSub, not_true_eq_false, not_false_eq_true, and_true, true_and, and_false, false_and, or_true, true_or, or_false, false_or, Nat.lt_irrefl, Nat.le_refl, Nat.add_zero, Bool.false_eq_true, ↓pu_gI, nd_le, nd_leT, nd_lt, nd_ltT, nd_eq, nd_eqT, kl]
    · have kc := js_ch hw (i := ltN g N p (wdL w)) (by omega) a
      have kh := tr_has h (q := p + ltN g N p (wdL w)) (s := (wdL w).getD (ltN g N p (wdL w)) 0) (by omega)
      rw [if_neg (lt_end (wdL w) p (by omega))] at kh
      simp (disch := omega) only [Tr_lettersOf_l4, pl_0, pl_1, pl_2, pl_3, pl_4, pl_5, pl_6, pl_7, pl_8, pl_9, pl_10, pl_11, pl_12, pl_13, pl_14, pl_15, pl_16, pl_17, pl_18, pl_19, pl_20, pl_21, pl_30, pl_40, pl_50, pl_51, pl_60, pl_70, pl_71, pl_99, pl_100, pl_160, pl_240, pl_256, pl_300, pl_999, pl_1000, pl_1280, pl_9999, pl_10000, pu_neg, pu_nn, pu_le, pu_lt, pu_eq, pu_cl, pu_in, pu_g, ↓pu_let, ↓pu_bind, pu_m1, pu_add, pu_mul, Nat.not_lt_zero, if_false, if_true, Nat.zero_le, pu_d2, pu_d100, pu_em1, ↓reduceIte, Nat.reduceEqDiff, Nat.reduceLT, Nat.reduceLeDiff, Nat.reduceAdd, Nat.reduceMul, Nat.reduceSub, not_true_eq_false, not_false_eq_true, and_true, true_and, and_false, false_and, or_true, true_or, or_false, false_or, Nat.lt_irrefl, Nat.le_refl, Nat.add_zero, Bool.false_eq_true, ↓pu_gI, nd_le, nd_leT, nd_lt, nd_ltT, nd_eq, nd_eqT, kl, kc, h.1.2.1, kh]
theorem tr_by {w : Nat} (hw : w < 8) (s : nm_St) : Tr_wordBy (nI w) s = some (2000 + w, s) := by
  rcases sh_ix hw with rfl | rfl | rfl | rfl | rfl | rfl | rfl | rfl <;> (unfold Tr_wordBy; simp (disch := omega) only [pl_0, pl_1, pl_2, pl_3, pl_4, pl_5, pl_6, pl_7, pl_8, pl_9, pl_10, pl_11, pl_12, pl_13, pl_14, pl_15, pl_16, pl_17, pl_18, pl_19, pl_20, pl_21, pl_30, pl_40, pl_50, pl_51, pl_60, pl_70, pl_71, pl_99, pl_100, pl_160, pl_240, pl_256, pl_300, pl_999, pl_1000, pl_1280, pl_9999, pl_10000, pu_neg, pu_nn, pu_le, pu_lt, pu_eq, pu_cl, pu_in, pu_g, ↓pu_let, ↓pu_bind, pu_m1, pu_add, pu_mul, Nat.not_lt_zero, if_false, if_true, Nat.zero_le, pu_d2, pu_d100, pu_em1, ↓reduceIte, Nat.reduceEqDiff, Nat.reduceLT, Nat.reduceLeDiff, Nat.reduceAdd, Nat.reduceMul, Nat.reduceSub, not_true_eq_false, not_false_eq_true, and_true, true_and, and_false, false_and, or_true, true_or, or_false, false_or, Nat.lt_irrefl, Nat.le_refl, Nat.add_zero, Bool.false_eq_true, ↓pu_gI, nd_le, nd_leT, nd_lt, nd_ltT, nd_eq, nd_eqT])
theorem isS_t {w : Nat} (hw : w < 8) : nm_isS (2000 + w) = true := by
  unfold nm_isS
  rw [decide_eq_true (by omega), decide_eq_true (by omega)]; rfl
theorem tr_word (h : TxC g N σ a p (-nI 1) c T) (hp : p ≤ N) : (wdS g N p 8 = 0 → Tr_readWord a = some (-nI 1, nm_pI a 42 6 (nI (p + moS g N p 8)))) ∧ ∀ w, wdS g N p 8 = w + 1 → Tr_readWord a = some (nI w, nm_pI a 42 3 (nI (p + (wdL w).length))) := by
  have hN := h.2.2.2.2
  unfold Tr_readWord
  simp only [pl_0, pl_1, pl_2, pl_3, pl_4, pl_5, pl_6, pl_7, pl_8, pl_9, pl_10, pl_11, pl_12, pl_13, pl_14, pl_15, pl_16, pl_17, pl_18, pl_19, pl_20, pl_21, pl_30, pl_40, pl_50, pl_51, pl_60, pl_70, pl_71, pl_99, pl_100, pl_160, pl_240, pl_256, pl_300, pl_999, pl_1000, pl_1280, pl_9999, pl_10000]
  refine lp_Q (fun n' i (_ : Unit) => Tr_readWord_l4 _ n' (nI (moS g N p i)) (nI i) a) 8 (fun i _ => wdS g N p i = 0) (fun r => (wdS g N p 8 = 0 → r = some (-nI 1, nm_pI a 42 6 (nI (p + moS g N p 8)))) ∧ ∀ w, wdS g N p 8 = w + 1 → r = some (nI w, nm_pI a 42 3 (nI (p + (wdL w).length)))) ?_ ?_ 400 0 () (by omega) rfl (by omega)
  · intro n' i _ hi h0 ih
    have kb := tr_by hi a
    have ks := isS_t hi
    have kt := tr_lets h hi hp
    have kl := js_len hi a
    have l := wd_len i hi
    have hl := lt_le g N (wdL i) p
    have hm := mo_le g N p i (by omega)
    by_cases z : ltN g N p (wdL i) = (wdL i).length
    · have e8 := wdS_p 8 (by omega) i hi z
      rw [z] at kt
      have key : Tr_readWord_l4 (fun (e10 : Int32) (s9 : nm_St) => ((Tr_fail ((s9.1 42 3) + e10) s9).bind fun q11 => some (-nI 1, q11.2))) (n' + 1) (nI (moS g N p i)) (nI i) a = some (nI i, nm_pI a 42 3 (nI (p + (wdL i).length))) := by
        simp (disch := omega) only [Tr_readWord_l4, pl_0, pl_1, pl_2, pl_3, pl_4, pl_5, pl_6, pl_7, pl_8, pl_9, pl_10, pl_11, pl_12, pl_13, pl_14, pl_15, pl_16, pl_17, pl_18, pl_19, pl_20, pl_21, pl_30, pl_40, pl_50, pl_51, pl_60, pl_70, pl_71, pl_99, pl_100, pl_160, pl_240, pl_256, pl_300, pl_999, pl_1000, pl_1280, pl_9999, pl_10000, pu_neg, pu_nn, pu_le, pu_lt, pu_eq, pu_cl, pu_in, pu_g, ↓pu_let, ↓pu_bind, pu_m1, pu_add, pu_mul, Nat.not_lt_zero, if_false, if_true, Nat.zero_le, pu_d2, pu_d100, pu_em1, ↓reduceIte, Nat.reduceEqDiff, Nat.reduceLT, Nat.reduceLeDiff, Nat.reduceAdd, Nat.reduceMul, Nat.reduceSub, not_true_eq_false, not_false_eq_true, and_true, true_and, and_false, false_and, or_true, true_or, or_false, false_or, Nat.lt_irrefl, Nat.le_refl, Nat.add_zero, Bool.false_eq_true, ↓pu_gI, nd_le, nd_leT, nd_lt, nd_ltT, nd_eq, nd_eqT, kb, ks, kt, kl, h.1.2.1]
      refine ⟨fun e => by omega, fun w e => ?_⟩
      have : w = i := by omega
      subst this
      exact key
    · have e0 : wdS g N p (i + 1) = 0 := by
        show (if wdS g N p i ≠ 0 then wdS g N p i else if ltN g N p (wdL i) = (wdL i).length then i + 1 else 0) = 0
        rw [if_neg (by omega), if_neg z]
      have hs2 := ih () e0
      have em : moS g N p (i + 1) = max (moS g N p i) (ltN g N p (wdL i)) := rfl
      rw [em] at hs2
      by_cases y : moS g N p i < ltN g N p (wdL i)
      · rw [Nat.max_eq_right (by omega)] at hs2
        simp (disch := omega) only [Tr_readWord_l4, pl_0, pl_1, pl_2, pl_3, pl_4, pl_5, pl_6, pl_7, pl_8, pl_9, pl_10, pl_11, pl_12, pl_13, pl_14, pl_15, pl_16, pl_17, pl_18, pl_19, pl_20, pl_21, pl_30, pl_40, pl_50, pl_51, pl_60, pl_70, pl_71, pl_99, pl_100, pl_160, pl_240, pl_256, pl_300, pl_999, pl_1000, pl_1280, pl_9999, pl_10000, pu_neg, pu_nn, pu_le, pu_lt, pu_eq, pu_cl, pu_in, pu_g, ↓pu_let, ↓pu_bind, pu_m1, pu_add, pu_mul, Nat.not_lt_zero, if_false, if_true, Nat.zero_le, pu_d2, pu_d100, pu_em1, ↓reduceIte, Nat.reduceEqDiff, Nat.reduceLT, Nat.reduceLeDiff, Nat.reduceAdd, Nat.reduceMul, Nat.reduceSub, not_true_eq_false, not_false_eq_true, and_true, true_and, and_false, false_and, or_true, true_or, or_false, false_or, Nat.lt_irrefl, Nat.le_refl, Nat.add_zero, Bool.false_eq_true, ↓pu_gI, nd_le, nd_leT, nd_lt, nd_ltT, nd_eq, nd_eqT, kb, ks, kt, kl, h.1.2.1]
        exact hs2
      · rw [Nat.max_eq_left (by omega)] at hs2
        simp (disch := omega) only [Tr_readWord_l4, pl_0, pl_1, pl_2, pl_3, pl_4, pl_5, pl_6, pl_7, pl_8, pl_9, pl_10, pl_11, pl_12, pl_13, pl_14, pl_15, pl_16, pl_17, pl_18, pl_19, pl_20, pl_21, pl_30, pl_40, pl_50, pl_51, pl_60, pl_70, pl_71, pl_99, pl_100, pl_160, pl_240, pl_256, pl_300, pl_999, pl_1000, pl_1280, pl_9999, pl_10000, pu_neg, pu_nn, pu_le, pu_lt, pu_eq, pu_cl, pu_in, pu_g, ↓pu_let, ↓pu_bind, pu_m1, pu_add, pu_mul, Nat.not_lt_zero, if_false, if_true, Nat.zero_le, pu_d2, pu_d100, pu_em1, ↓reduceIte, Nat.reduceEqDiff, Nat.reduceLT, Nat.reduceLeDiff, Nat.reduceAdd, Nat.reduceMul, Nat.reduceSub, not_true_eq_false, not_false_eq_true, and_true, true_and, and_false, false_and, or_true, true_or, or_false, false_or, Nat.lt_irrefl, Nat.le_refl, Nat.add_zero, Bool.false_eq_true, ↓pu_gI, nd_le, nd_leT, nd_lt, nd_ltT, nd_eq, nd_eqT, kb, ks, kt, kl, h.1.2.1]
        exact hs2
  · intro n' _ h0
    have hm := mo_le g N p 8 (by omega)
    have kf := tr_fail_n (nI (p + moS g N p 8)) h
    refine ⟨fun _ => ?_, fun w e => by omega⟩
    simp (disch := omega) only [Tr_readWord_l4, pl_0, pl_1, pl_2, pl_3, pl_4, pl_5, pl_6, pl_7, pl_8, pl_9, pl_10, pl_11, pl_12, pl_13, pl_14, pl_15, pl_16, pl_17, pl_18, pl_19, pl_20, pl_21, pl_30, pl_40, pl_50, pl_51, pl_60, pl_70, pl_71, pl_99, pl_100, pl_160, pl_240, pl_256, pl_300, pl_999, pl_1000, pl_1280, pl_9999, pl_10000, pu_neg, pu_nn, pu_le, pu_lt, pu_eq, pu_cl, pu_in, pu_g, ↓pu_let, ↓pu_bind, pu_m1, pu_add, pu_mul, Nat.not_lt_zero, if_false, if_true, Nat.zero_le, pu_d2, pu_d100, pu_em1, ↓reduceIte, Nat.reduceEqDiff, Nat.reduceLT, Nat.reduceLeDiff, Nat.reduceAdd, Nat.reduceMul, Nat.reduceSub, not_true_eq_false, not_false_eq_true, and_true, true_and, and_false, false_and, or_true, true_or, or_false, false_or, Nat.lt_irrefl, Nat.le_refl, Nat.add_zero, Bool.false_eq_true, ↓pu_gI, nd_le, nd_leT, nd_lt, nd_ltT, nd_eq, nd_eqT, h.1.2.1, kf]
end RDE
