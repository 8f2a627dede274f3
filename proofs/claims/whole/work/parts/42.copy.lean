/-! an island copied: class and model -/
def cpS (σ : nm_St) (o o1 : Nat) : Nat → nm_St
  | 0 => σ
  | i + 1 => nm_cpI (cpS σ o o1 i) (o1 + (i + 1)) 0 (o + (i + 1)) 0 8
theorem cpS_2 (σ : nm_St) (o o1 : Nat) : ∀ i, (cpS σ o o1 i).2 = σ.2 := by
  intro i
  induction i with
  | zero => rfl
  | succ i ih => exact ih
theorem cpS_at (σ : nm_St) {o o1 : Nat} (hd : o + 6 < o1 ∨ o1 + 6 < o) : ∀ i, i ≤ 6 → ∀ k j, (cpS σ o o1 i).1 k j = if o < k ∧ k ≤ o + i ∧ j < 8 then σ.1 (o1 + (k - o)) j else σ.1 k j := by
  intro i
  induction i with
  | zero => intro _ k j; rw [if_neg (by omega)]; rfl
  | succ i ih =>
    intro hi k j
    show nm_cp (cpS σ o o1 i).1 (o1 + (i + 1)) 0 (o + (i + 1)) 0 8 k j = _
    unfold nm_cp
    by_cases e : k = o + (i + 1) ∧ 0 ≤ j ∧ j < 0 + 8
    · rw [if_pos e, if_pos (by omega), ih (by omega), if_neg (by omega), show o1 + (i + 1) = o1 + (k - o) by omega, show 0 + (j - 0) = j by omega]
    · rw [if_neg e, ih (by omega)]
      by_cases e2 : o < k ∧ k ≤ o + i ∧ j < 8
      · rw [if_pos e2, if_pos (by omega)]
      · rw [if_neg e2, if_neg (by omega)]
def fdS (ρ : nm_St) (o o1 : Nat) : nm_St := nm_pI (nm_pI (nm_pI (nm_pI (nm_pI (nm_pI ρ o 6 (ρ.1 o1 6)) o 7 (ρ.1 o1 7)) o 8 (ρ.1 o1 8)) o 9 (ρ.1 o1 9)) o 10 (ρ.1 o1 10)) o 11 (ρ.1 o1 11)
theorem cg_t : nm_cg 0 0 8 8 8 = true := by decide +kernel
theorem cl_0 : (0 : Int32).toNatClampNeg = 0 := by decide +kernel
theorem cl_8 : (8 : Int32).toNatClampNeg = 8 := by decide +kernel
section ICP
variable {σ : nm_St} {o o1 : Nat} {T : is_T}
theorem is_become (h : IslR σ o1 T) (hd : o + 6 < o1 ∨ o1 + 6 < o) : ∃ τ, Is_become o o1 σ = some ((), τ) ∧ IslU σ o τ T := by
  have hat := cpS_at σ hd 6 (by omega)
  have h2 := cpS_2 σ o o1 6
  refine ⟨fdS (cpS σ o o1 6) o o1, ?_, ⟨fun r j a b c => ?_, fun j a b => ?_⟩, fun k hk => ?_, ?_⟩
  · have ne : ∀ (ρ : nm_St) (j i : Nat) (x : Int32), (nm_pI ρ o j x).1 o1 i = ρ.1 o1 i := fun ρ j i x => pI_ne _ _ (by omega)
    unfold Is_become fdS
    simp only [cg_t, pu_g, pu_let, cl_0, cl_8, ne]
    rfl
  · have ne : ∀ (ρ : nm_St) (i : Nat) (x : Int32), (nm_pI ρ o i x).1 (o + r) j = ρ.1 (o + r) j := fun ρ i x => pI_ne _ _ (by omega)
    unfold fdS
    rw [ne, ne, ne, ne, ne, ne, hat, if_pos (by omega), show o + r - o = r by omega]
    exact h.1 r j a b c
  · have e1 : ∀ i, (cpS σ o o1 6).1 o1 i = σ.1 o1 i := fun i => by rw [hat, if_neg (by omega)]
    have h6 := h.2 j a b
    have hj : j = 6 ∨ j = 7 ∨ j = 8 ∨ j = 9 ∨ j = 10 ∨ j = 11 := by omega
    rw [← h6]
    unfold fdS
    rcases hj with rfl | rfl | rfl | rfl | rfl | rfl
    · rw [pI_ne _ _ (by omega), pI_ne _ _ (by omega), pI_ne _ _ (by omega), pI_ne _ _ (by omega), pI_ne _ _ (by omega), pI_eq, e1]
    · rw [pI_ne _ _ (by omega), pI_ne _ _ (by omega), pI_ne _ _ (by omega), pI_ne _ _ (by omega), pI_eq, e1]
    · rw [pI_ne _ _ (by omega), pI_ne _ _ (by omega), pI_ne _ _ (by omega), pI_eq, e1]
    · rw [pI_ne _ _ (by omega), pI_ne _ _ (by omega), pI_eq, e1]
    · rw [pI_ne _ _ (by omega), pI_eq, e1]
    · rw [pI_eq, e1]
  · funext j
    have ne : ∀ (ρ : nm_St) (i : Nat) (x : Int32), (nm_pI ρ o i x).1 k j = ρ.1 k j := fun ρ i x => pI_ne _ _ (by omega)
    unfold fdS
    rw [ne, ne, ne, ne, ne, ne, hat, if_neg (by omega)]
  · exact h2
end ICP
/-- the model's tables carried away, r of them -/
def StA (σ : nm_St) (c r : Nat) (τ : nm_St) : Prop := (∀ r' j, 1 ≤ r' → r' ≤ r → j < 8 → τ.1 c (8 * (r' - 1) + j) = σ.1 (71 + r') j) ∧ (∀ k j, ¬ (k = c ∧ j < 8 * r) → τ.1 k j = σ.1 k j) ∧ τ.2 = σ.2
def LdA (σ : nm_St) (c r : Nat) (τ : nm_St) : Prop := (∀ r' j, 1 ≤ r' → r' ≤ r → j < 8 → τ.1 (71 + r') j = σ.1 c (8 * (r' - 1) + j)) ∧ (∀ k j, ¬ (72 ≤ k ∧ k ≤ 71 + r ∧ j < 8) → τ.1 k j = σ.1 k j) ∧ τ.2 = σ.2
section MCP
variable {σ ρ : nm_St} {c r : Nat} {T : is_T}
theorem md_car_st (h : StA σ c r ρ) (hr : r < 6) (hc : 77 < c) : ∃ τ, Md_carries (71 + (r + 1)) c (nI (8 * r)) (nI 0) ρ = some (nI (8 * (r + 1)), τ) ∧ StA σ c (r + 1) τ := by
  unfold Md_carries
  simp only [pl_0]
  refine lp_Q (fun n i (a : nm_St) => Md_carries_l3 (71 + (r + 1)) c _ n (nI (8 * r)) (nI 0) (nI i) a) 8 (fun i a => (∀ r' j, 1 ≤ r' → ((r' ≤ r ∧ j < 8) ∨ (r' = r + 1 ∧ j < i)) → a.1 c (8 * (r' - 1) + j) = σ.1 (71 + r') j) ∧ (∀ k j, ¬ (k = c ∧ j < 8 * r + i) → a.1 k j = σ.1 k j) ∧ a.2 = σ.2) (fun q => ∃ τ, q = some (nI (8 * (r + 1)), τ) ∧ StA σ c (r + 1) τ) ?_ ?_ 400 0 ρ (by omega) ⟨fun r' j h1 hj => h.1 r' j h1 (by omega) (by omega), fun k j hk => h.2.1 k j (by omega), h.2.2⟩ (by omega)
  · intro n i a hi hp ih
    have hs := ih (nm_pI a c (8 * r + i) (a.1 (71 + (r + 1)) i)) ⟨fun r' j h1 hj => by
      by_cases e : r' = r + 1 ∧ j = i
      · obtain ⟨rfl, rfl⟩ := e
        rw [show 8 * (r + 1 - 1) + j = 8 * r + j by omega, pI_eq]
        exact hp.2.1 _ _ (by omega)
      · rw [pI_ne _ _ (by omega)]
        exact hp.1 r' j h1 (by omega), fun k j hk => by
      rw [pI_ne _ _ (by omega)]
      exact hp.2.1 k j (by omega), hp.2.2⟩
    simp (disch := omega) only [Md_carries_l3, pl_0, pl_1, pl_2, pl_3, pl_4, pl_5, pl_6, pl_7, pl_8, pl_9, pl_10, pl_11, pl_12, pl_13, pl_14, pl_15, pl_16, pl_17, pl_18, pl_19, pl_20, pl_21, pl_30, pl_40, pl_50, pl_51, pl_60, pl_70, pl_71, pl_99, pl_100, pl_160, pl_240, pl_256, pl_300, pl_999, pl_1000, pl_1280, pl_9999, pl_10000, pu_neg, pu_nn, pu_le, pu_lt, pu_eq, pu_cl, pu_in, pu_g, pu_let, pu_bind, pu_m1, pu_add, pu_mul, Nat.not_lt_zero, if_false, if_true, Nat.zero_le, pu_d2, pu_d100, pu_em1, reduceIte, Nat.reduceEqDiff, Nat.reduceLT, Nat.reduceLeDiff, Nat.reduceAdd, Nat.reduceMul, Nat.reduceSub, not_true_eq_false, not_false_eq_true, and_true, true_and, and_false, false_and, or_true, true_or, or_false, false_or, Nat.lt_irrefl, Nat.le_refl, Nat.add_zero, Bool.false_eq_true]
    rw [if_neg (by omega)]
    exact hs
  · intro n a hp
    simp (disch := omega) only [Md_carries_l3, pl_0, pl_1, pl_2, pl_3, pl_4, pl_5, pl_6, pl_7, pl_8, pl_9, pl_10, pl_11, pl_12, pl_13, pl_14, pl_15, pl_16, pl_17, pl_18, pl_19, pl_20, pl_21, pl_30, pl_40, pl_50, pl_51, pl_60, pl_70, pl_71, pl_99, pl_100, pl_160, pl_240, pl_256, pl_300, pl_999, pl_1000, pl_1280, pl_9999, pl_10000, pu_neg, pu_nn, pu_le, pu_lt, pu_eq, pu_cl, pu_in, pu_g, pu_let, pu_bind, pu_m1, pu_add, pu_mul, Nat.not_lt_zero, if_false, if_true, Nat.zero_le, pu_d2, pu_d100, pu_em1, reduceIte, Nat.reduceEqDiff, Nat.reduceLT, Nat.reduceLeDiff, Nat.reduceAdd, Nat.reduceMul, Nat.reduceSub, not_true_eq_false, not_false_eq_true, and_true, true_and, and_false, false_and, or_true, true_or, or_false, false_or, Nat.lt_irrefl, Nat.le_refl, Nat.add_zero, Bool.false_eq_true]
    exact ⟨a, rfl, fun r' j h1 h2 hj => hp.1 r' j h1 (by omega), fun k j hk => hp.2.1 k j (by omega), hp.2.2⟩
theorem md_car_ld (h : LdA σ c r ρ) (hr : r < 6) (hc : 77 < c) : ∃ τ, Md_carries (71 + (r + 1)) c (nI (8 * r)) (nI 1) ρ = some (nI (8 * (r + 1)), τ) ∧ LdA σ c (r + 1) τ := by
  unfold Md_carries
  simp only [pl_0]
  refine lp_Q (fun n i (a : nm_St) => Md_carries_l3 (71 + (r + 1)) c _ n (nI (8 * r)) (nI 1) (nI i) a) 8 (fun i a => (∀ r' j, 1 ≤ r' → ((r' ≤ r ∧ j < 8) ∨ (r' = r + 1 ∧ j < i)) → a.1 (71 + r') j = σ.1 c (8 * (r' - 1) + j)) ∧ (∀ k j, ¬ (72 ≤ k ∧ (k ≤ 71 + r ∧ j < 8 ∨ k = 71 + (r + 1) ∧ j < i)) → a.1 k j = σ.1 k j) ∧ a.2 = σ.2) (fun q => ∃ τ, q = some (nI (8 * (r + 1)), τ) ∧ LdA σ c (r + 1) τ) ?_ ?_ 400 0 ρ (by omega) ⟨fun r' j h1 hj => h.1 r' j h1 (by omega) (by omega), fun k j hk => h.2.1 k j (by omega), h.2.2⟩ (by omega)
  · intro n i a hi hp ih
    have hs := ih (nm_pI a (71 + (r + 1)) i (a.1 c (8 * r + i))) ⟨fun r' j h1 hj => by
      by_cases e : r' = r + 1 ∧ j = i
      · obtain ⟨rfl, rfl⟩ := e
        rw [show 8 * (r + 1 - 1) + j = 8 * r + j by omega, pI_eq]
        exact hp.2.1 _ _ (by omega)
      · rw [pI_ne _ _ (by omega)]
        exact hp.1 r' j h1 (by omega), fun k j hk => by
      rw [pI_ne _ _ (by omega)]
      exact hp.2.1 k j (by omega), hp.2.2⟩
    simp (disch := omega) only [Md_carries_l3, pl_0, pl_1, pl_2, pl_3, pl_4, pl_5, pl_6, pl_7, pl_8, pl_9, pl_10, pl_11, pl_12, pl_13, pl_14, pl_15, pl_16, pl_17, pl_18, pl_19, pl_20, pl_21, pl_30, pl_40, pl_50, pl_51, pl_60, pl_70, pl_71, pl_99, pl_100, pl_160, pl_240, pl_256, pl_300, pl_999, pl_1000, pl_1280, pl_9999, pl_10000, pu_neg, pu_nn, pu_le, pu_lt, pu_eq, pu_cl, pu_in, pu_g, pu_let, pu_bind, pu_m1, pu_add, pu_mul, Nat.not_lt_zero, if_false, if_true, Nat.zero_le, pu_d2, pu_d100, pu_em1, reduceIte, Nat.reduceEqDiff, Nat.reduceLT, Nat.reduceLeDiff, Nat.reduceAdd, Nat.reduceMul, Nat.reduceSub, not_true_eq_false, not_false_eq_true, and_true, true_and, and_false, false_and, or_true, true_or, or_false, false_or, Nat.lt_irrefl, Nat.le_refl, Nat.add_zero, Bool.false_eq_true]
    rw [if_neg (by omega)]
    exact hs
  · intro n a hp
    simp (disch := omega) only [Md_carries_l3, pl_0, pl_1, pl_2, pl_3, pl_4, pl_5, pl_6, pl_7, pl_8, pl_9, pl_10, pl_11, pl_12, pl_13, pl_14, pl_15, pl_16, pl_17, pl_18, pl_19, pl_20, pl_21, pl_30, pl_40, pl_50, pl_51, pl_60, pl_70, pl_71, pl_99, pl_100, pl_160, pl_240, pl_256, pl_300, pl_999, pl_1000, pl_1280, pl_9999, pl_10000, pu_neg, pu_nn, pu_le, pu_lt, pu_eq, pu_cl, pu_in, pu_g, pu_let, pu_bind, pu_m1, pu_add, pu_mul, Nat.not_lt_zero, if_false, if_true, Nat.zero_le, pu_d2, pu_d100, pu_em1, reduceIte, Nat.reduceEqDiff, Nat.reduceLT, Nat.reduceLeDiff, Nat.reduceAdd, Nat.reduceMul, Nat.reduceSub, not_true_eq_false, not_false_eq_true, and_true, true_and, and_false, false_and, or_true, true_or, or_false, false_or, Nat.lt_irrefl, Nat.le_refl, Nat.add_zero, Bool.false_eq_true]
    exact ⟨a, rfl, fun r' j h1 h2 hj => hp.1 r' j h1 (by omega), fun k j hk => hp.2.1 k j (by omega), hp.2.2⟩
theorem md_all_st (h : MdR σ T) (hc : 77 < c) : ∃ τ, Md_all c (nI 0) σ = some ((), τ) ∧ KeR τ c T ∧ (∀ k j, k ≠ c → τ.1 k j = σ.1 k j) ∧ τ.2 = σ.2 := by
  have s0 : StA σ c 0 σ := ⟨fun r' j h1 h2 => by omega, fun _ _ _ => rfl, rfl⟩
  obtain ⟨ρ1, e1, s1⟩ := md_car_st s0 (by omega) hc
  obtain ⟨ρ2, e2, s2⟩ := md_car_st s1 (by omega) hc
  obtain ⟨ρ3, e3, s3⟩ := md_car_st s2 (by omega) hc
  obtain ⟨ρ4, e4, s4⟩ := md_car_st s3 (by omega) hc
  obtain ⟨ρ5, e5, s5⟩ := md_car_st s4 (by omega) hc
  obtain ⟨ρ6, e6, s6⟩ := md_car_st s5 (by omega) hc
  simp only [Nat.reduceAdd, Nat.reduceMul] at e1 e2 e3 e4 e5 e6
  have k0 : ∀ j, ρ6.1 70 j = σ.1 70 j := fun j => s6.2.1 70 j (by omega)
  have ne : ∀ (a : nm_St) (i j : Nat) (x : Int32), (nm_pI a c i x).1 70 j = a.1 70 j := fun a i j x => pI_ne _ _ (by omega)
  refine ⟨nm_pI (nm_pI (nm_pI (nm_pI (nm_pI (nm_pI ρ6 c 48 (σ.1 70 0)) c 49 (σ.1 70 1)) c 50 (σ.1 70 2)) c 51 (σ.1 70 3)) c 52 (σ.1 70 4)) c 53 (σ.1 70 5), ?_, ⟨fun r j h1 h2 hj => ?_, fun j hj => ?_⟩, fun k j hk => ?_, s6.2.2⟩
  · unfold Md_all
    simp (disch := omega) only [pl_0, pl_1, pl_2, pl_3, pl_4, pl_5, pl_6, pl_7, pl_8, pl_9, pl_10, pl_11, pl_12, pl_13, pl_14, pl_15, pl_16, pl_17, pl_18, pl_19, pl_20, pl_21, pl_30, pl_40, pl_50, pl_51, pl_60, pl_70, pl_71, pl_99, pl_100, pl_160, pl_240, pl_256, pl_300, pl_999, pl_1000, pl_1280, pl_9999, pl_10000, pu_neg, pu_nn, pu_le, pu_lt, pu_eq, pu_cl, pu_in, pu_g, pu_let, pu_bind, pu_m1, pu_add, pu_mul, Nat.not_lt_zero, if_false, if_true, Nat.zero_le, pu_d2, pu_d100, pu_em1, reduceIte, Nat.reduceEqDiff, Nat.reduceLT, Nat.reduceLeDiff, Nat.reduceAdd, Nat.reduceMul, Nat.reduceSub, not_true_eq_false, not_false_eq_true, and_true, true_and, and_false, false_and, or_true, true_or, or_false, false_or, Nat.lt_irrefl, Nat.le_refl, Nat.add_zero, Bool.false_eq_true, e1, e2, e3, e4, e5, e6, ne, k0]
  · rw [pI_ne _ _ (by omega), pI_ne _ _ (by omega), pI_ne _ _ (by omega), pI_ne _ _ (by omega), pI_ne _ _ (by omega), pI_ne _ _ (by omega), s6.1 r j h1 h2 hj]
    exact h.1 r j h1 h2 hj
  · rw [← h.2 j hj]
    have hj6 : j = 0 ∨ j = 1 ∨ j = 2 ∨ j = 3 ∨ j = 4 ∨ j = 5 := by omega
    rcases hj6 with rfl | rfl | rfl | rfl | rfl | rfl
    · rw [pI_ne _ _ (by omega), pI_ne _ _ (by omega), pI_ne _ _ (by omega), pI_ne _ _ (by omega), pI_ne _ _ (by omega), pI_eq]
    · rw [pI_ne _ _ (by omega), pI_ne _ _ (by omega), pI_ne _ _ (by omega), pI_ne _ _ (by omega), pI_eq]
    · rw [pI_ne _ _ (by omega), pI_ne _ _ (by omega), pI_ne _ _ (by omega), pI_eq]
    · rw [pI_ne _ _ (by omega), pI_ne _ _ (by omega), pI_eq]
    · rw [pI_ne _ _ (by omega), pI_eq]
    · rw [pI_eq]
  · rw [pI_ne _ _ (by omega), pI_ne _ _ (by omega), pI_ne _ _ (by omega), pI_ne _ _ (by omega), pI_ne _ _ (by omega), pI_ne _ _ (by omega)]
    exact s6.2.1 k j (by omega)
theorem md_all_ld (h : KeR σ c T) (hc : 77 < c) : ∃ τ, Md_all c (nI 1) σ = some ((), τ) ∧ MdU σ τ T := by
  have s0 : LdA σ c 0 σ := ⟨fun r' j h1 h2 => by omega, fun _ _ _ => rfl, rfl⟩
  obtain ⟨ρ1, e1, s1⟩ := md_car_ld s0 (by omega) hc
  obtain ⟨ρ2, e2, s2⟩ := md_car_ld s1 (by omega) hc
  obtain ⟨ρ3, e3, s3⟩ := md_car_ld s2 (by omega) hc
  obtain ⟨ρ4, e4, s4⟩ := md_car_ld s3 (by omega) hc
  obtain ⟨ρ5, e5, s5⟩ := md_car_ld s4 (by omega) hc
  obtain ⟨ρ6, e6, s6⟩ := md_car_ld s5 (by omega) hc
  simp only [Nat.reduceAdd, Nat.reduceMul] at e1 e2 e3 e4 e5 e6
  have k0 : ∀ j, ρ6.1 c j = σ.1 c j := fun j => s6.2.1 c j (by omega)
  have ne : ∀ (a : nm_St) (i j : Nat) (x : Int32), (nm_pI a 70 i x).1 c j = a.1 c j := fun a i j x => pI_ne _ _ (by omega)
  refine ⟨nm_pI (nm_pI (nm_pI (nm_pI (nm_pI (nm_pI ρ6 70 0 (σ.1 c 48)) 70 1 (σ.1 c 49)) 70 2 (σ.1 c 50)) 70 3 (σ.1 c 51)) 70 4 (σ.1 c 52)) 70 5 (σ.1 c 53), ?_, ⟨fun r j h1 h2 hj => ?_, fun j hj => ?_⟩, fun k j hk => ⟨?_, ?_⟩⟩
  · unfold Md_all
    simp (disch := omega) only [pl_0, pl_1, pl_2, pl_3, pl_4, pl_5, pl_6, pl_7, pl_8, pl_9, pl_10, pl_11, pl_12, pl_13, pl_14, pl_15, pl_16, pl_17, pl_18, pl_19, pl_20, pl_21, pl_30, pl_40, pl_50, pl_51, pl_60, pl_70, pl_71, pl_99, pl_100, pl_160, pl_240, pl_256, pl_300, pl_999, pl_1000, pl_1280, pl_9999, pl_10000, pu_neg, pu_nn, pu_le, pu_lt, pu_eq, pu_cl, pu_in, pu_g, pu_let, pu_bind, pu_m1, pu_add, pu_mul, Nat.not_lt_zero, if_false, if_true, Nat.zero_le, pu_d2, pu_d100, pu_em1, reduceIte, Nat.reduceEqDiff, Nat.reduceLT, Nat.reduceLeDiff, Nat.reduceAdd, Nat.reduceMul, Nat.reduceSub, not_true_eq_false, not_false_eq_true, and_true, true_and, and_false, false_and, or_true, true_or, or_false, false_or, Nat.lt_irrefl, Nat.le_refl, Nat.add_zero, Bool.false_eq_true, e1, e2, e3, e4, e5, e6, ne, k0, pu_10]
  · rw [pI_ne _ _ (by omega), pI_ne _ _ (by omega), pI_ne _ _ (by omega), pI_ne _ _ (by omega), pI_ne _ _ (by omega), pI_ne _ _ (by omega), s6.1 r j h1 h2 hj]
    exact h.1 r j h1 h2 hj
  · rw [← h.2 j hj]
    have hj6 : j = 0 ∨ j = 1 ∨ j = 2 ∨ j = 3 ∨ j = 4 ∨ j = 5 := by omega
    rcases hj6 with rfl | rfl | rfl | rfl | rfl | rfl
    · rw [pI_ne _ _ (by omega), pI_ne _ _ (by omega), pI_ne _ _ (by omega), pI_ne _ _ (by omega), pI_ne _ _ (by omega), pI_eq]
    · rw [pI_ne _ _ (by omega), pI_ne _ _ (by omega), pI_ne _ _ (by omega), pI_ne _ _ (by omega), pI_eq]
    · rw [pI_ne _ _ (by omega), pI_ne _ _ (by omega), pI_ne _ _ (by omega), pI_eq]
    · rw [pI_ne _ _ (by omega), pI_ne _ _ (by omega), pI_eq]
    · rw [pI_ne _ _ (by omega), pI_eq]
    · rw [pI_eq]
  · have n0 : ¬ (k = 70 ∧ j < 6) := by
      rintro ⟨rfl, q⟩
      rw [rg_m0 j q] at hk
      exact absurd hk (by decide)
    have n1 : ¬ (72 ≤ k ∧ k ≤ 77) := by
      rintro ⟨q1, q2⟩
      have := rg_m (k - 71) (by omega) (by omega) j
      rw [show 71 + (k - 71) = k by omega] at this
      rw [this] at hk
      exact absurd hk (by decide)
    rw [pI_ne _ _ (by omega), pI_ne _ _ (by omega), pI_ne _ _ (by omega), pI_ne _ _ (by omega), pI_ne _ _ (by omega), pI_ne _ _ (by omega)]
    exact s6.2.1 k j (by omega)
  · show ρ6.2 k j = _
    rw [s6.2.2]
theorem KeR.frc {τ : nm_St} {L : List Nat} {q : Nat} (h : KeR σ c T) (f : Fr L σ τ) (hq : ∀ j, rg c j = q) (hL : L.contains q = false) : KeR τ c T := by
  refine ⟨fun r j h1 h2 hj => ?_, fun j h1 => ?_⟩
  · rw [← h.1 r j h1 h2 hj]
    exact (f _ _ (by rw [hq]; exact hL)).1
  · rw [← h.2 j h1]
    exact (f _ _ (by rw [hq]; exact hL)).1
end MCP
