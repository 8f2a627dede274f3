/-! the model's reader: signs and numbers -/
/-- the model's state: base 160 s, N signs g, at p, the island told so far; T0 kept in 87 -/
def TxM (g : Nat → Int32) (N s : Nat) (T0 : is_T) (σ a : nm_St) (p : Nat) (T : is_T) : Prop := (a.1 70 23 = nI (160 * s) ∧ a.1 70 24 = nI p ∧ a.1 70 25 = nI N ∧ a.1 70 6 = -nI 1) ∧ (∀ i, i < N → Int64.toInt32 (a.2 82 (160 * s + i)) = g i) ∧ MdR a T ∧ CoR a ∧ KeR a 87 T0 ∧ Fr [10, 11, 13] σ a ∧ N ≤ 160 ∧ s < 8
theorem KeR.ne {a : nm_St} {c : Nat} {T : is_T} (h : KeR a c T) {k : Nat} (hk : k ≠ c) (j : Nat) (x : Int32) : KeR (nm_pI a k j x) c T := ⟨fun r i h1 h2 hi => by rw [pI_ne _ _ (by omega)]; exact h.1 r i h1 h2 hi, fun i h1 => by rw [pI_ne _ _ (by omega)]; exact h.2 i h1⟩
section RDM
variable {g : Nat → Int32} {N s : Nat} {T0 T V : is_T} {σ a b : nm_St} {p : Nat}
/-- what is written beside the reader's place -/
theorem TxM.w (h : TxM g N s T0 σ a p T) {k j : Nat} (x : Int32) (hr : rg k j = 10) (hk : k ≠ 87) (h3 : ¬ (k = 70 ∧ 23 ≤ j ∧ j ≤ 25)) : TxM g N s T0 σ (nm_pI a k j x) p T := by
  have hf : Fr [10] a (nm_pI a k j x) := (Fr.rf [10] a).pI x (by rw [hr]; rfl)
  refine ⟨⟨?_, ?_, ?_, ?_⟩, h.2.1, h.2.2.1.fr hf rfl, h.2.2.2.1.fr hf rfl, h.2.2.2.2.1.ne hk _ _, h.2.2.2.2.2.1.tr (hf.mono rfl), h.2.2.2.2.2.2⟩
  · rw [pI_ne _ _ (by omega)]; exact h.1.1
  · rw [pI_ne _ _ (by omega)]; exact h.1.2.1
  · rw [pI_ne _ _ (by omega)]; exact h.1.2.2.1
  · rw [(hf 70 6 rfl).1]; exact h.1.2.2.2
theorem TxM.to (h : TxM g N s T0 σ a p T) (q : Nat) : TxM g N s T0 σ (nm_pI a 70 24 (nI q)) q T := by
  have hf : Fr [10] a (nm_pI a 70 24 (nI q)) := (Fr.rf [10] a).pI _ rfl
  refine ⟨⟨?_, pI_eq _ _ _ _, ?_, ?_⟩, h.2.1, h.2.2.1.fr hf rfl, h.2.2.2.1.fr hf rfl, h.2.2.2.2.1.ne (by omega) _ _, h.2.2.2.2.2.1.tr (hf.mono rfl), h.2.2.2.2.2.2⟩
  · rw [pI_ne _ _ (by omega)]; exact h.1.1
  · rw [pI_ne _ _ (by omega)]; exact h.1.2.2.1
  · rw [pI_ne _ _ (by omega)]; exact h.1.2.2.2
theorem TxM.nu (h : TxM g N s T0 σ a p T) (x : Int32) : TxM g N s T0 σ (nm_pI a 70 26 x) p T := h.w x rfl (by omega) (by omega)
theorem TxM.wr (h : TxM g N s T0 σ a p T) (x : Int32) : TxM g N s T0 σ (nm_pI a 70 27 x) p T := h.w x rfl (by omega) (by omega)
theorem TxM.te (h : TxM g N s T0 σ a p T) (j : Nat) (x : Int32) : TxM g N s T0 σ (nm_pI a 86 j x) p T := h.w x rfl (by omega) (by omega)
theorem TxM.isl (h : TxM g N s T0 σ a p T) (u : MdU a b V) : TxM g N s T0 σ b p V := by
  refine ⟨⟨?_, ?_, ?_, ?_⟩, fun i hi => ?_, u.1, h.2.2.2.1.fr u.2 rfl, h.2.2.2.2.1.frc u.2 (q := 10) (fun j => rfl) rfl, h.2.2.2.2.2.1.tr (u.2.mono rfl), h.2.2.2.2.2.2⟩
  · rw [(u.2 70 23 rfl).1]; exact h.1.1
  · rw [(u.2 70 24 rfl).1]; exact h.1.2.1
  · rw [(u.2 70 25 rfl).1]; exact h.1.2.2.1
  · rw [(u.2 70 6 rfl).1]; exact h.1.2.2.2
  · rw [(u.2 82 (160 * s + i) rfl).2]; exact h.2.1 i hi
theorem TxM.kb (h : TxM g N s T0 σ a p T) : a.1 70 23 = nI (160 * s) := h.1.1
theorem TxM.kp (h : TxM g N s T0 σ a p T) : a.1 70 24 = nI p := h.1.2.1
theorem TxM.ke (h : TxM g N s T0 σ a p T) : a.1 70 25 = nI N := h.1.2.2.1
theorem TxM.kg (h : TxM g N s T0 σ a p T) {i : Nat} (hi : i < N) : Int64.toInt32 (a.2 82 (160 * s + i)) = g i := h.2.1 i hi
theorem TxM.kn (h : TxM g N s T0 σ a p T) : N ≤ 160 ∧ s < 8 := h.2.2.2.2.2.2
theorem md_digit (h : TxM g N s T0 σ a p T) (hp : p < 2147483648) : Md_isDigit a = some (nI (if dgB g N p then 1 else 0), a) := by
  obtain ⟨hN, hs⟩ := h.kn
  by_cases z : p < N
  · have e := h.kg z
    by_cases y : un (g p) < 2147483648
    · have e2 := e
      rw [rg_t (g p)] at e2
      by_cases y1 : un (g p) < 48
      · rw [dg_no (by omega)]
        unfold Md_isDigit
        simp (disch := omega) only [pl_48, pl_57, pl_0, pl_1, pl_2, pl_3, pl_4, pl_5, pl_6, pl_7, pl_8, pl_9, pl_10, pl_11, pl_12, pl_13, pl_14, pl_15, pl_16, pl_17, pl_18, pl_19, pl_20, pl_21, pl_30, pl_40, pl_50, pl_51, pl_60, pl_70, pl_71, pl_99, pl_100, pl_160, pl_240, pl_256, pl_300, pl_999, pl_1000, pl_1280, pl_9999, pl_10000, pu_neg, pu_nn, pu_le, pu_lt, pu_eq, pu_cl, pu_in, pu_g, ↓pu_let, ↓pu_bind, pu_m1, pu_add, pu_mul, Nat.not_lt_zero, if_false, if_true, Nat.zero_le, pu_d2, pu_d100, pu_em1, ↓reduceIte, Nat.reduceEqDiff, Nat.reduceLT, Nat.reduceLeDiff, Nat.reduceAdd, Nat.reduceMul, Nat.reduceSub, not_true_eq_false, not_false_eq_true, and_true, true_and, and_false, false_and, or_true, true_or, or_false, false_or, Nat.lt_irrefl, Nat.le_refl, Nat.add_zero, Bool.false_eq_true, ↓pu_gI, nd_le, nd_leT, nd_lt, nd_ltT, nd_eq, nd_eqT, h.kb, h.kp, h.ke, e2]
      · by_cases y2 : 57 < un (g p)
        · rw [dg_no (by omega)]
          unfold Md_isDigit
          simp (disch := omega) only [pl_48, pl_57, pl_0, pl_1, pl_2, pl_3, pl_4, pl_5, pl_6, pl_7, pl_8, pl_9, pl_10, pl_11, pl_12, pl_13, pl_14, pl_15, pl_16, pl_17, pl_18, pl_19, pl_20, pl_21, pl_30, pl_40, pl_50, pl_51, pl_60, pl_70, pl_71, pl_99, pl_100, pl_160, pl_240, pl_256, pl_300, pl_999, pl_1000, pl_1280, pl_9999, pl_10000, pu_neg, pu_nn, pu_le, pu_lt, pu_eq, pu_cl, pu_in, pu_g, ↓pu_let, ↓pu_bind, pu_m1, pu_add, pu_mul, Nat.not_lt_zero, if_false, if_true, Nat.zero_le, pu_d2, pu_d100, pu_em1, ↓reduceIte, Nat.reduceEqDiff, Nat.reduceLT, Nat.reduceLeDiff, Nat.reduceAdd, Nat.reduceMul, Nat.reduceSub, not_true_eq_false, not_false_eq_true, and_true, true_and, and_false, false_and, or_true, true_or, or_false, false_or, Nat.lt_irrefl, Nat.le_refl, Nat.add_zero, Bool.false_eq_true, ↓pu_gI, nd_le, nd_leT, nd_lt, nd_ltT, nd_eq, nd_eqT, h.kb, h.kp, h.ke, e2]
        · have d : dgB g N p = true := by
            unfold dgB
            rw [decide_eq_true z, decide_eq_true (by omega), decide_eq_true (by omega)]; rfl
          rw [d]
          unfold Md_isDigit
          simp (disch := omega) only [pl_48, pl_57, pl_0, pl_1, pl_2, pl_3, pl_4, pl_5, pl_6, pl_7, pl_8, pl_9, pl_10, pl_11, pl_12, pl_13, pl_14, pl_15, pl_16, pl_17, pl_18, pl_19, pl_20, pl_21, pl_30, pl_40, pl_50, pl_51, pl_60, pl_70, pl_71, pl_99, pl_100, pl_160, pl_240, pl_256, pl_300, pl_999, pl_1000, pl_1280, pl_9999, pl_10000, pu_neg, pu_nn, pu_le, pu_lt, pu_eq, pu_cl, pu_in, pu_g, ↓pu_let, ↓pu_bind, pu_m1, pu_add, pu_mul, Nat.not_lt_zero, if_false, if_true, Nat.zero_le, pu_d2, pu_d100, pu_em1, ↓reduceIte, Nat.reduceEqDiff, Nat.reduceLT, Nat.reduceLeDiff, Nat.reduceAdd, Nat.reduceMul, Nat.reduceSub, not_true_eq_false, not_false_eq_true, and_true, true_and, and_false, false_and, or_true, true_or, or_false, false_or, Nat.lt_irrefl, Nat.le_refl, Nat.add_zero, Bool.false_eq_true, ↓pu_gI, nd_le, nd_leT, nd_lt, nd_ltT, nd_eq, nd_eqT, h.kb, h.kp, h.ke, e2]
    · have hx := un_neg y
      rw [dg_no (by omega)]
      unfold Md_isDigit
      simp (disch := omega) only [pl_48, pl_57, pl_0, pl_1, pl_2, pl_3, pl_4, pl_5, pl_6, pl_7, pl_8, pl_9, pl_10, pl_11, pl_12, pl_13, pl_14, pl_15, pl_16, pl_17, pl_18, pl_19, pl_20, pl_21, pl_30, pl_40, pl_50, pl_51, pl_60, pl_70, pl_71, pl_99, pl_100, pl_160, pl_240, pl_256, pl_300, pl_999, pl_1000, pl_1280, pl_9999, pl_10000, pu_neg, pu_nn, pu_le, pu_lt, pu_eq, pu_cl, pu_in, pu_g, ↓pu_let, ↓pu_bind, pu_m1, pu_add, pu_mul, Nat.not_lt_zero, if_false, if_true, Nat.zero_le, pu_d2, pu_d100, pu_em1, ↓reduceIte, Nat.reduceEqDiff, Nat.reduceLT, Nat.reduceLeDiff, Nat.reduceAdd, Nat.reduceMul, Nat.reduceSub, not_true_eq_false, not_false_eq_true, and_true, true_and, and_false, false_and, or_true, true_or, or_false, false_or, Nat.lt_irrefl, Nat.le_refl, Nat.add_zero, Bool.false_eq_true, ↓pu_gI, nd_le, nd_leT, nd_lt, nd_ltT, nd_eq, nd_eqT, h.kb, h.kp, h.ke, e, ngl hx, nge hx, ngle hx, nggt hx, ngne hx]
  · rw [dg_no (by omega)]
    unfold Md_isDigit
    simp (disch := omega) only [pl_48, pl_57, pl_0, pl_1, pl_2, pl_3, pl_4, pl_5, pl_6, pl_7, pl_8, pl_9, pl_10, pl_11, pl_12, pl_13, pl_14, pl_15, pl_16, pl_17, pl_18, pl_19, pl_20, pl_21, pl_30, pl_40, pl_50, pl_51, pl_60, pl_70, pl_71, pl_99, pl_100, pl_160, pl_240, pl_256, pl_300, pl_999, pl_1000, pl_1280, pl_9999, pl_10000, pu_neg, pu_nn, pu_le, pu_lt, pu_eq, pu_cl, pu_in, pu_g, ↓pu_let, ↓pu_bind, pu_m1, pu_add, pu_mul, Nat.not_lt_zero, if_false, if_true, Nat.zero_le, pu_d2, pu_d100, pu_em1, ↓reduceIte, Nat.reduceEqDiff, Nat.reduceLT, Nat.reduceLeDiff, Nat.reduceAdd, Nat.reduceMul, Nat.reduceSub, not_true_eq_false, not_false_eq_true, and_true, true_and, and_false, false_and, or_true, true_or, or_false, false_or, Nat.lt_irrefl, Nat.le_refl, Nat.add_zero, Bool.false_eq_true, ↓pu_gI, nd_le, nd_leT, nd_lt, nd_ltT, nd_eq, nd_eqT, h.kb, h.kp, h.ke]
theorem md_l23 (K : nm_St → Option (Int32 × nm_St)) : ∀ k fuel j v p a, k + j = 4 → k < fuel → TxM g N s T0 σ a p T → p ≤ N → a.1 70 26 = nI v → ∃ τ, Md_reads_l23 K fuel (nI j) a = K τ ∧ TxM g N s T0 σ τ (nuG g N k v p).2 T ∧ τ.1 70 26 = nI (nuG g N k v p).1 ∧ ∀ i, τ.1 86 i = a.1 86 i := by
  intro k
  induction k with
  | zero =>
    intro fuel j v p a hj hf h hp e26
    obtain ⟨m, rfl⟩ : ∃ m, fuel = m + 1 := ⟨fuel - 1, by omega⟩
    refine ⟨a, ?_, h, e26, fun _ => rfl⟩
    rw [Md_reads_l23]
    simp (disch := omega) only [pl_0, pl_1, pl_2, pl_3, pl_4, pl_5, pl_6, pl_7, pl_8, pl_9, pl_10, pl_11, pl_12, pl_13, pl_14, pl_15, pl_16, pl_17, pl_18, pl_19, pl_20, pl_21, pl_30, pl_40, pl_50, pl_51, pl_60, pl_70, pl_71, pl_99, pl_100, pl_160, pl_240, pl_256, pl_300, pl_999, pl_1000, pl_1280, pl_9999, pl_10000, pu_neg, pu_nn, pu_le, pu_lt, pu_eq, pu_cl, pu_in, pu_g, ↓pu_let, ↓pu_bind, pu_m1, pu_add, pu_mul, Nat.not_lt_zero, if_false, if_true, Nat.zero_le, pu_d2, pu_d100, pu_em1, ↓reduceIte, Nat.reduceEqDiff, Nat.reduceLT, Nat.reduceLeDiff, Nat.reduceAdd, Nat.reduceMul, Nat.reduceSub, not_true_eq_false, not_false_eq_true, and_true, true_and, and_false, false_and, or_true, true_or, or_false, false_or, Nat.lt_irrefl, Nat.le_refl, Nat.add_zero, Bool.false_eq_true, ↓pu_gI, nd_le, nd_leT, nd_lt, nd_ltT, nd_eq, nd_eqT]
  | succ k ih =>
    intro fuel j v p a hj hf h hp e26
    obtain ⟨hN, hs⟩ := h.kn
    obtain ⟨m, rfl⟩ : ∃ m, fuel = m + 1 := ⟨fuel - 1, by omega⟩
    have kd := md_digit h (by omega)
    have e : nuG g N (k + 1) v p = if dgB g N p then nuG g N k (v * 10 + (un (g p) - 48)) (p + 1) else (v, p) := rfl
    cases d : dgB g N p with
    | true =>
      rw [d] at kd e
      rw [if_pos rfl] at kd e
      rw [e]
      have du := dg_un d
      have eg := h.kg du.1
      rw [rg_t (g p)] at eg
      have ev : nI 10 * nI v + nI (un (g p)) - nI 48 = nI (v * 10 + (un (g p) - 48)) := by
        rw [pu_mul, pu_add, dg_sub (by omega)]
        congr 1
        omega
      have h1 := h.nu (nI (v * 10 + (un (g p) - 48)))
      obtain ⟨τ, t1, t2, t3, t4⟩ := ih m (j + 1) (v * 10 + (un (g p) - 48)) (p + 1) _ (by omega) (by omega) (h1.to (p + 1)) (by omega) (by rw [pI_ne _ _ (by omega)]; exact pI_eq _ _ _ _)
      refine ⟨τ, ?_, t2, t3, fun i => by rw [t4, pI_ne _ _ (by omega), pI_ne _ _ (by omega)]⟩
      rw [← t1, Md_reads_l23, pl_4, pl_10, pl_48, pl_1, if_neg (show ¬ nI 4 ≤ nI j by rw [pu_le (by omega) (by omega)]; omega)]
      refine (bn1 kd).trans ?_
      dsimp only
      rw [h.kb, h.kp, pu_add, gin (show 160 * s + p < 1280 by omega) (by omega), pu_cl (by omega), eg, e26, ev, pu_let, h1.kp, pu_add, pu_add, pu_let]
    | false =>
      rw [d] at kd e
      rw [if_neg (by decide)] at kd e
      rw [e]
      refine ⟨a, ?_, h, e26, fun _ => rfl⟩
      rw [Md_reads_l23, pl_4, pl_10, pl_48, pl_1, if_neg (show ¬ nI 4 ≤ nI j by rw [pu_le (by omega) (by omega)]; omega)]
      exact bn0 kd
theorem nu_d0 (h : dgB g N p = false) : nuG g N 4 0 p = (0, p) := by
  show (if dgB g N p then nuG g N 3 (0 * 10 + (un (g p) - 48)) (p + 1) else (0, p)) = (0, p)
  rw [h]
  rfl
theorem nu_d1 (h : dgB g N p = true) : (nuG g N 4 0 p).2 ≠ p := by
  show (if dgB g N p then nuG g N 3 (0 * 10 + (un (g p) - 48)) (p + 1) else (0, p)).2 ≠ p
  rw [h, if_pos rfl]
  have := (nu_le g N 3 (0 * 10 + (un (g p) - 48)) (p + 1) (by have := dg_un h; omega)).1
  omega
theorem md_wrong (x : Int32) : Md_wrong x a = some (nI 0, nm_pI a 70 27 x) := by
  unfold Md_wrong
  rw [pu_let, pl_0]
theorem md_reads0 (h : TxM g N s T0 σ a p T) (hp : p ≤ N) (d : dgB g N p = false) : Md_reads a = some (nI 0, nm_pI (nm_pI a 70 26 0) 70 27 (nI p)) := by
  have h1 := h.nu 0
  have kd := md_digit h1 (by have := h.kn; omega)
  rw [d, if_neg (by decide)] at kd
  have kw := md_wrong (a := nm_pI a 70 26 0) (nI p)
  unfold Md_reads
  rw [pu_let]
  refine (bn0 kd).trans ?_
  dsimp only
  rw [h1.kp, kw, pu_bind, bz0, pu_g]
theorem md_reads1 (h : TxM g N s T0 σ a p T) (hp : p ≤ N) (d : dgB g N p = true) : ∃ τ, Md_reads a = some (nI 1, τ) ∧ TxM g N s T0 σ τ (nuG g N 4 0 p).2 T ∧ τ.1 70 26 = nI (nuG g N 4 0 p).1 ∧ ∀ i, τ.1 86 i = a.1 86 i := by
  have h1 := h.nu 0
  have kd := md_digit h1 (by have := h.kn; omega)
  rw [d, if_pos rfl] at kd
  obtain ⟨τ, t1, t2, t3, t4⟩ := md_l23 (fun (s10 : nm_St) => some ((1 : Int32), s10)) 4 400 0 0 p _ (by omega) (by omega) h1 hp (by rw [pI_eq, pl_0])
  refine ⟨τ, ?_, t2, t3, fun i => by rw [t4, pI_ne _ _ (by omega)]⟩
  unfold Md_reads
  rw [pu_let]
  refine (bn1 kd).trans ?_
  rw [pl_0]
  exact t1
end RDM
