/-! the model's month -/
section MDB
variable {σ : nm_St} {T : is_T}
theorem md_isDouble (h : MdR σ T) (hI : IslI T) {m : Nat} (hm : m < 8) : Md_isDouble (nI m) σ = some (nI (if dblB T m then 1 else 0), σ) := by
  have h2 := hI.2.2.2.2 m hm
  unfold Md_isDouble dblB
  simp (disch := omega) only [pl_0, pl_1, pl_2, pl_3, pl_4, pl_5, pl_6, pl_7, pl_8, pl_9, pl_10, pl_11, pl_12, pl_13, pl_14, pl_15, pl_16, pl_17, pl_18, pl_19, pl_20, pl_21, pl_30, pl_40, pl_50, pl_51, pl_60, pl_70, pl_71, pl_99, pl_100, pl_160, pl_240, pl_256, pl_300, pl_999, pl_1000, pl_1280, pl_9999, pl_10000, pu_neg, pu_nn, pu_le, pu_lt, pu_eq, pu_cl, pu_in, pu_g, pu_let, pu_bind, pu_m1, pu_add, pu_mul, Nat.not_lt_zero, if_false, if_true, Nat.zero_le, pu_d2, pu_d100, pu_em1, reduceIte, Nat.reduceEqDiff, Nat.reduceLT, Nat.reduceLeDiff, Nat.reduceAdd, Nat.reduceMul, Nat.reduceSub, not_true_eq_false, not_false_eq_true, and_true, true_and, and_false, false_and, or_true, true_or, or_false, false_or, Nat.lt_irrefl, Nat.le_refl, Nat.add_zero, h.a1]
  by_cases e : T 1 m = 2
  · simp [e]
  · by_cases e5 : T 1 m = 5 <;> simp [e, e5]
theorem pas_to {T : is_T} {K c : Nat} (hc : T 0 6 = c) : ∀ n, c ≤ n → pasT T K n = pasT T K c := by
  intro n
  induction n with
  | zero => intro h; rw [show c = 0 by omega]
  | succ n ih =>
    intro h
    by_cases e : c = n + 1
    · rw [e]
    · rw [pas_f (by rw [at_out (by omega)]; rfl)]
      exact ih (by omega)
theorem md_passes (h : MdR σ T) (hI : IslI T) : ∃ τ, Md_passes σ = some (nI (monC T), τ) ∧ MdU σ τ (monT T) := by
  have hK := orF_lt hI (atB T 1) 8 (by omega)
  have h8 := hI.2.2.1
  have hc := hI.1
  have hb := bts8 (atB T 1)
  unfold Md_passes
  simp only [pl_0, pl_1, pl_2, pl_3, pl_4, pl_5, pl_6, pl_7, pl_8, pl_9, pl_10, pl_11, pl_12, pl_13, pl_14, pl_15, pl_16, pl_17, pl_18, pl_19, pl_20, pl_21, pl_30, pl_40, pl_50, pl_51, pl_60, pl_70, pl_71, pl_99, pl_100, pl_160, pl_240, pl_256, pl_300, pl_999, pl_1000, pl_1280, pl_9999, pl_10000, md_those h hI (show 1 ≤ 3 by omega), pu_bind, md_kn h hI (fun i hi => at_out hi)]
  generalize hk : orF T (atB T 1) 8 = K at hK
  have hC : monC T = cntB (fun m => atB T 1 m && dblB T m) (T 0 6) := cntB_to 8 hc (fun i hi => by rw [at_out hi]; rfl)
  rw [hC]
  refine lp_Q (fun n i (a : nm_St) => Md_passes_l17 _ n (nI (bts (atB T 1) 8)) (nI K) (nI (cntB (fun m => atB T 1 m && dblB T m) i)) (nI i) a) (T 0 6) (fun i a => MdU σ a (pasT T K i)) (fun r => ∃ τ, r = some (nI (cntB (fun m => atB T 1 m && dblB T m) (T 0 6)), τ) ∧ MdU σ τ (monT T)) ?_ ?_ 400 0 σ (by omega) (MdU.rf h) (by omega)
  · intro n i a hi hp ih
    have hJ := pas_I hI hK i (by omega)
    have hR := hp.1
    have k0 : a.1 70 0 = nI (T 0 6) := by rw [hR.c, pas_same i (by omega)]
    have k4 : a.1 75 i = nI (T 4 i) := by rw [hR.a4 (by omega), pas_same i (by omega)]
    have kH := md_has (σ := a) (a := bts (atB T 1) 8) (m := i) (by omega) (by omega)
    rw [bts8_tb _ (by omega)] at kH
    have kD := md_isDouble hR hJ (m := i) (by omega)
    rw [pas_dbl] at kD
    cases e1 : atB T 1 i with
    | false =>
      have e : (fun m => atB T 1 m && dblB T m) i = false := by simp [e1]
      have hs := ih a (by rw [pas_f e]; exact hp)
      rw [cnt_f e] at hs
      rw [e1] at kH
      simp (disch := omega) only [Md_passes_l17, pl_0, pl_1, pl_2, pl_3, pl_4, pl_5, pl_6, pl_7, pl_8, pl_9, pl_10, pl_11, pl_12, pl_13, pl_14, pl_15, pl_16, pl_17, pl_18, pl_19, pl_20, pl_21, pl_30, pl_40, pl_50, pl_51, pl_60, pl_70, pl_71, pl_99, pl_100, pl_160, pl_240, pl_256, pl_300, pl_999, pl_1000, pl_1280, pl_9999, pl_10000, pu_neg, pu_nn, pu_le, pu_lt, pu_eq, pu_cl, pu_in, pu_g, pu_let, pu_bind, pu_m1, pu_add, pu_mul, Nat.not_lt_zero, if_false, if_true, Nat.zero_le, pu_d2, pu_d100, pu_em1, reduceIte, Nat.reduceEqDiff, Nat.reduceLT, Nat.reduceLeDiff, Nat.reduceAdd, Nat.reduceMul, Nat.reduceSub, not_true_eq_false, not_false_eq_true, and_true, true_and, and_false, false_and, or_true, true_or, or_false, false_or, Nat.lt_irrefl, Nat.le_refl, Nat.add_zero, k0, kH]
      rw [if_neg (by omega)]
      exact hs
    | true =>
      rw [e1] at kH
      cases e2 : dblB T i with
      | false =>
        have e : (fun m => atB T 1 m && dblB T m) i = false := by simp [e2]
        have hs := ih a (by rw [pas_f e]; exact hp)
        rw [cnt_f e] at hs
        rw [e2] at kD
        simp (disch := omega) only [Md_passes_l17, pl_0, pl_1, pl_2, pl_3, pl_4, pl_5, pl_6, pl_7, pl_8, pl_9, pl_10, pl_11, pl_12, pl_13, pl_14, pl_15, pl_16, pl_17, pl_18, pl_19, pl_20, pl_21, pl_30, pl_40, pl_50, pl_51, pl_60, pl_70, pl_71, pl_99, pl_100, pl_160, pl_240, pl_256, pl_300, pl_999, pl_1000, pl_1280, pl_9999, pl_10000, pu_neg, pu_nn, pu_le, pu_lt, pu_eq, pu_cl, pu_in, pu_g, pu_let, pu_bind, pu_m1, pu_add, pu_mul, Nat.not_lt_zero, if_false, if_true, Nat.zero_le, pu_d2, pu_d100, pu_em1, reduceIte, Nat.reduceEqDiff, Nat.reduceLT, Nat.reduceLeDiff, Nat.reduceAdd, Nat.reduceMul, Nat.reduceSub, not_true_eq_false, not_false_eq_true, and_true, true_and, and_false, false_and, or_true, true_or, or_false, false_or, Nat.lt_irrefl, Nat.le_refl, Nat.add_zero, k0, kH, kD]
        rw [if_neg (by omega)]
        exact hs
      | true =>
        have e : (fun m => atB T 1 m && dblB T m) i = true := by simp [e1, e2]
        have hs := ih (nm_pI (nm_pI a 77 i (nI 0)) 75 i (nI (T 4 i ||| K))) (by rw [pas_t e]; exact (hp.up (r := 6) 0 (by omega) (by omega) (by omega)).up (r := 4) _ (by omega) (by omega) (by omega))
        rw [cnt_t e] at hs
        rw [e2] at kD
        have k44 : (nm_pI a 77 i (nI 0)).1 75 i = nI (T 4 i) := by
          rw [← k4]
          exact pI_ne _ _ (by omega)
        simp (disch := omega) only [Md_passes_l17, pl_0, pl_1, pl_2, pl_3, pl_4, pl_5, pl_6, pl_7, pl_8, pl_9, pl_10, pl_11, pl_12, pl_13, pl_14, pl_15, pl_16, pl_17, pl_18, pl_19, pl_20, pl_21, pl_30, pl_40, pl_50, pl_51, pl_60, pl_70, pl_71, pl_99, pl_100, pl_160, pl_240, pl_256, pl_300, pl_999, pl_1000, pl_1280, pl_9999, pl_10000, pu_neg, pu_nn, pu_le, pu_lt, pu_eq, pu_cl, pu_in, pu_g, pu_let, pu_bind, pu_m1, pu_add, pu_mul, Nat.not_lt_zero, if_false, if_true, Nat.zero_le, pu_d2, pu_d100, pu_em1, reduceIte, Nat.reduceEqDiff, Nat.reduceLT, Nat.reduceLeDiff, Nat.reduceAdd, Nat.reduceMul, Nat.reduceSub, not_true_eq_false, not_false_eq_true, and_true, true_and, and_false, false_and, or_true, true_or, or_false, false_or, Nat.lt_irrefl, Nat.le_refl, Nat.add_zero, k0, kH, kD, k44, fa_or]
        rw [if_neg (by omega)]
        exact hs
  · intro n a hp
    have hR := hp.1
    have k0 : a.1 70 0 = nI (T 0 6) := by rw [hR.c, pas_same _ (by omega)]
    have k8 : a.1 70 2 = nI (T 0 8) := by rw [hR.f, pas_same _ (by omega)]
    have k10 : a.1 70 4 = nI (T 0 10) := by rw [hR.mo, pas_same _ (by omega)]
    have k10' : ∀ x, (nm_pI a 70 2 x).1 70 4 = nI (T 0 10) := by
      intro x
      rw [← k10]
      simp [nm_pI, nm_up]
    have kx : (if T 0 8 ≤ 0 then nI (T 0 8) - nI 0 else nI (T 0 8) - nI 1) = nI (T 0 8 - 1) := by
      by_cases z : T 0 8 ≤ 0
      · rw [if_pos z, show T 0 8 = 0 by omega]; rfl
      · rw [if_neg z, pk_sub (by omega)]
    have hm : MdU σ (nm_pI (nm_pI a 70 2 (nI (T 0 8 - 1))) 70 4 (nI (T 0 10 + 1))) (monT T) := by
      unfold monT
      rw [hk, pas_to rfl 8 hc]
      exact (hp.up0 (j := 2) _ (by omega)).up0 (j := 4) _ (by omega)
    simp (disch := omega) only [Md_passes_l17, Md_passes_j93, pl_0, pl_1, pl_2, pl_3, pl_4, pl_5, pl_6, pl_7, pl_8, pl_9, pl_10, pl_11, pl_12, pl_13, pl_14, pl_15, pl_16, pl_17, pl_18, pl_19, pl_20, pl_21, pl_30, pl_40, pl_50, pl_51, pl_60, pl_70, pl_71, pl_99, pl_100, pl_160, pl_240, pl_256, pl_300, pl_999, pl_1000, pl_1280, pl_9999, pl_10000, pu_neg, pu_nn, pu_le, pu_lt, pu_eq, pu_cl, pu_in, pu_g, pu_let, pu_bind, pu_m1, pu_add, pu_mul, Nat.not_lt_zero, if_false, if_true, Nat.zero_le, pu_d2, pu_d100, pu_em1, reduceIte, Nat.reduceEqDiff, Nat.reduceLT, Nat.reduceLeDiff, Nat.reduceAdd, Nat.reduceMul, Nat.reduceSub, not_true_eq_false, not_false_eq_true, and_true, true_and, and_false, false_and, or_true, true_or, or_false, false_or, Nat.lt_irrefl, Nat.le_refl, Nat.add_zero, k0, k8, k10']
    by_cases z : T 0 8 ≤ 0
    · rw [if_pos z] at kx ⊢
      rw [kx]
      exact ⟨_, rfl, hm⟩
    · rw [if_neg z] at kx ⊢
      rw [kx]
      exact ⟨_, rfl, hm⟩
end MDB
