/-! the class's reader: a row of signs taken, a text read, an island told -/
theorem IslR.ne {a : nm_St} {T : is_T} {o : Nat} (h : IslR a o T) {k : Nat} (hk : k < o ∨ o + 6 < k) (j : Nat) (x : Int32) : IslR (nm_pI a k j x) o T := ⟨fun r i h1 h2 hi => by rw [pI_ne _ _ (by omega)]; exact h.1 r i h1 h2 hi, fun i h1 h2 => by rw [pI_ne _ _ (by omega)]; exact h.2 i h1 h2⟩
section TAK
variable {σ a : nm_St} {T U : is_T} {E : Nat → Nat → Int64}
theorem tr_take (h : CF σ T U E) (hP : PF T U) {s : Nat} (hs : s < 8) (f : Fr [0] σ a) (hi : IslR a 43 T) : ∃ τ, Tr_takeSigns (54 + 2 * s) a = some ((), τ) ∧ τ.1 42 2 = nI (U 2 s) ∧ (∀ i, i < U 2 s → τ.1 50 i = eN E s i) ∧ IslR τ 43 T ∧ Fr [0] σ τ := by
  have hsz := (hP.2 s hs).1.2.2
  have c := h.fr f rfl rfl
  unfold Tr_takeSigns
  rw [c.size hs]
  have e1 : (if (160 : Int32) < nI (U 2 s) then (160 : Int32) else nI (U 2 s)) = nI (U 2 s) := by
    simp (disch := omega) only [pl_0, pl_1, pl_2, pl_3, pl_4, pl_5, pl_6, pl_7, pl_8, pl_9, pl_10, pl_11, pl_12, pl_13, pl_14, pl_15, pl_16, pl_17, pl_18, pl_19, pl_20, pl_21, pl_30, pl_40, pl_50, pl_51, pl_60, pl_70, pl_71, pl_99, pl_100, pl_160, pl_240, pl_256, pl_300, pl_999, pl_1000, pl_1280, pl_9999, pl_10000, pu_neg, pu_nn, pu_le, pu_lt, pu_eq, pu_cl, pu_in, pu_g, ↓pu_let, ↓pu_bind, pu_m1, pu_add, pu_mul, Nat.not_lt_zero, if_false, if_true, Nat.zero_le, pu_d2, pu_d100, pu_em1, ↓reduceIte, Nat.reduceEqDiff, Nat.reduceLT, Nat.reduceLeDiff, Nat.reduceAdd, Nat.reduceMul, Nat.reduceSub, not_true_eq_false, not_false_eq_true, and_true, true_and, and_false, false_and, or_true, true_or, or_false, false_or, Nat.lt_irrefl, Nat.le_refl, Nat.add_zero, Bool.false_eq_true, ↓pu_gI, nd_le, nd_leT, nd_lt, nd_ltT, nd_eq, nd_eqT]
  rw [e1, pu_let, pu_let]
  simp only [pl_0, pl_1, pl_2, pl_3, pl_4, pl_5, pl_6, pl_7, pl_8, pl_9, pl_10, pl_11, pl_12, pl_13, pl_14, pl_15, pl_16, pl_17, pl_18, pl_19, pl_20, pl_21, pl_30, pl_40, pl_50, pl_51, pl_60, pl_70, pl_71, pl_99, pl_100, pl_160, pl_240, pl_256, pl_300, pl_999, pl_1000, pl_1280, pl_9999, pl_10000]
  refine lp_Q (fun n' i (b : nm_St) => Tr_takeSigns_l16 (54 + 2 * s) _ n' (nI i) b) (U 2 s) (fun i b => b.1 42 2 = nI (U 2 s) ∧ (∀ j, j < i → b.1 50 j = eN E s j) ∧ IslR b 43 T ∧ Fr [0] σ b) (fun r => ∃ τ, r = some ((), τ) ∧ τ.1 42 2 = nI (U 2 s) ∧ (∀ i, i < U 2 s → τ.1 50 i = eN E s i) ∧ IslR τ 43 T ∧ Fr [0] σ τ) ?_ ?_ 400 0 _ (by omega) ⟨pI_eq _ _ _ _, fun j hj => absurd hj (Nat.not_lt_zero _), hi.ne (by omega) _ _, f.pI _ rfl⟩ (by omega)
  · intro n' i b hin hb ih
    obtain ⟨b1, b2, b3, b4⟩ := hb
    have kn := sh_num (h.fr b4 rfl rfl) hP hs hin
    have hs2 := ih (nm_pI b 50 i (eN E s i)) ⟨by rw [pI_ne _ _ (by omega)]; exact b1, fun j hj => by
      by_cases e : j = i
      · subst e; exact pI_eq _ _ _ _
      · rw [pI_ne _ _ (by omega)]; exact b2 j (by omega), b3.ne (by omega) _ _, b4.pI _ rfl⟩
    rw [Tr_takeSigns_l16]
    simp (disch := omega) only [pl_0, pl_1, pl_2, pl_3, pl_4, pl_5, pl_6, pl_7, pl_8, pl_9, pl_10, pl_11, pl_12, pl_13, pl_14, pl_15, pl_16, pl_17, pl_18, pl_19, pl_20, pl_21, pl_30, pl_40, pl_50, pl_51, pl_60, pl_70, pl_71, pl_99, pl_100, pl_160, pl_240, pl_256, pl_300, pl_999, pl_1000, pl_1280, pl_9999, pl_10000, pu_neg, pu_nn, pu_le, pu_lt, pu_eq, pu_cl, pu_in, pu_g, ↓pu_let, ↓pu_bind, pu_m1, pu_add, pu_mul, Nat.not_lt_zero, if_false, if_true, Nat.zero_le, pu_d2, pu_d100, pu_em1, ↓reduceIte, Nat.reduceEqDiff, Nat.reduceLT, Nat.reduceLeDiff, Nat.reduceAdd, Nat.reduceMul, Nat.reduceSub, not_true_eq_false, not_false_eq_true, and_true, true_and, and_false, false_and, or_true, true_or, or_false, false_or, Nat.lt_irrefl, Nat.le_refl, Nat.add_zero, Bool.false_eq_true, ↓pu_gI, nd_le, nd_leT, nd_lt, nd_ltT, nd_eq, nd_eqT, b1, kn]
    exact hs2
  · intro n' b hb
    obtain ⟨b1, b2, b3, b4⟩ := hb
    refine ⟨b, ?_, b1, b2, b3, b4⟩
    rw [Tr_takeSigns_l16]
    simp (disch := omega) only [pl_0, pl_1, pl_2, pl_3, pl_4, pl_5, pl_6, pl_7, pl_8, pl_9, pl_10, pl_11, pl_12, pl_13, pl_14, pl_15, pl_16, pl_17, pl_18, pl_19, pl_20, pl_21, pl_30, pl_40, pl_50, pl_51, pl_60, pl_70, pl_71, pl_99, pl_100, pl_160, pl_240, pl_256, pl_300, pl_999, pl_1000, pl_1280, pl_9999, pl_10000, pu_neg, pu_nn, pu_le, pu_lt, pu_eq, pu_cl, pu_in, pu_g, ↓pu_let, ↓pu_bind, pu_m1, pu_add, pu_mul, Nat.not_lt_zero, if_false, if_true, Nat.zero_le, pu_d2, pu_d100, pu_em1, ↓reduceIte, Nat.reduceEqDiff, Nat.reduceLT, Nat.reduceLeDiff, Nat.reduceAdd, Nat.reduceMul, Nat.reduceSub, not_true_eq_false, not_false_eq_true, and_true, true_and, and_false, false_and, or_true, true_or, or_false, false_or, Nat.lt_irrefl, Nat.le_refl, Nat.add_zero, Bool.false_eq_true, ↓pu_gI, nd_le, nd_leT, nd_lt, nd_ltT, nd_eq, nd_eqT, b1]
theorem tr_all (h : CF σ T U E) (hP : PF T U) {s : Nat} (hs : s < 8) : (∀ f, txS (eN E s) (U 2 s) (U 2 s + 1) 0 T 0 = .inl f → f ≤ U 2 s + 5 ∧ ∃ τ, Tr_readAll (54 + 2 * s) 2 σ = some (nI f, τ) ∧ Fr [0] σ τ) ∧ ∀ V d, txS (eN E s) (U 2 s) (U 2 s + 1) 0 T 0 = .inr (V, d) → IslI V ∧ T 0 6 ≤ V 0 6 ∧ ∃ τ, Tr_readAll (54 + 2 * s) 2 σ = some (-nI 1, τ) ∧ Fr [0] σ τ ∧ IslR τ 43 V ∧ τ.1 42 5 = nI d := by
  have hsz := (hP.2 s hs).1.2.2
  obtain ⟨τ1, e1, u1⟩ := is_become (o := 43) (o1 := 2) h.1 (by omega)
  obtain ⟨τ2, e2, t1, t2, t3, t4⟩ := tr_take h hP hs u1.2.fr43 u1.1
  have t : TxC (eN E s) (U 2 s) σ (nm_pI (nm_pI (nm_pI τ2 42 3 (nI 0)) 42 5 (nI 0)) 42 6 (-nI 1)) 0 (-nI 1) 0 T := by
    refine ⟨⟨?_, ?_, pI_eq _ _ _ _, ?_⟩, fun i hi => ?_, ((t3.n42 _ _).n42 _ _).n42 _ _, ((t4.pI _ rfl).pI _ rfl).pI _ rfl, hsz⟩
    · rw [pI_ne _ _ (by omega), pI_ne _ _ (by omega), pI_ne _ _ (by omega)]; exact t1
    · rw [pI_ne _ _ (by omega), pI_ne _ _ (by omega), pI_eq]
    · rw [pI_ne _ _ (by omega), pI_eq]
    · rw [pI_ne _ _ (by omega), pI_ne _ _ (by omega), pI_ne _ _ (by omega)]; exact t2 i hi
  have I := tr_l30 (54 + 2 * s) 2 (fun (s12 : nm_St) => some ((s12.1 42 6), s12)) (U 2 s + 1) 400 0 0 0 T _ t (Nat.zero_le _) hP.1 (Nat.le_refl _) (by omega) (by omega)
  have st : Tr_readAll (54 + 2 * s) 2 σ = Tr_readAll_l30 (54 + 2 * s) 2 (fun (s12 : nm_St) => some ((s12.1 42 6), s12)) 400 (nI 0) (nm_pI (nm_pI (nm_pI τ2 42 3 (nI 0)) 42 5 (nI 0)) 42 6 (-nI 1)) := by
    unfold Tr_readAll
    rw [e1, pu_bind, e2, pu_bind]
    simp only [pl_0, pl_1, pl_2, pl_3, pl_4, pl_5, pl_6, pl_7, pl_8, pl_9, pl_10, pl_11, pl_12, pl_13, pl_14, pl_15, pl_16, pl_17, pl_18, pl_19, pl_20, pl_21, pl_30, pl_40, pl_50, pl_51, pl_60, pl_70, pl_71, pl_99, pl_100, pl_160, pl_240, pl_256, pl_300, pl_999, pl_1000, pl_1280, pl_9999, pl_10000, pu_let]
  refine ⟨fun f hf => ?_, fun V d hd => ?_⟩
  · obtain ⟨h1, τ, q, d, V, h2, h3⟩ := I.1 f hf
    refine ⟨h1, τ, ?_, h3.2.2.2.1⟩
    rw [st, h2, h3.1.2.2.1]
  · obtain ⟨h1, h0, τ, q, h2, h3⟩ := I.2 V d hd
    refine ⟨h1, h0, τ, ?_, h3.2.2.2.1, h3.2.2.1, h3.1.2.2.2⟩
    rw [st, h2, h3.1.2.2.1]
/-- the class's half of island -/
theorem nm_islC (h : CF σ T U E) (hP : PF T U) {s : Nat} (hs : s < 8) (e0 : ckN U s = 0) : (∀ f, txS (eN E s) (U 2 s) (U 2 s + 1) 0 T 0 = .inl f → f ≤ U 2 s + 5 ∧ ∃ τ, Nm_island (nI s) σ = some (-nI 6, rfC τ 6) ∧ τ.1 0 10 = nI f ∧ Fr [0, 3] σ τ) ∧ ∀ V d, txS (eN E s) (U 2 s) (U 2 s + 1) 0 T 0 = .inr (V, d) → IslI V ∧ T 0 6 ≤ V 0 6 ∧ ∃ τ, Nm_island (nI s) σ = some (nI d, τ) ∧ τ.1 0 10 = -nI 1 ∧ IslR τ 2 V ∧ Fr [0, 1, 3] σ τ := by
  have hsz := (hP.2 s hs).1.2.2
  have A := tr_all h hP hs
  have k := nm_ck h hP hs
  rw [if_pos e0] at k
  refine ⟨fun f hf => ?_, fun V d hd => ?_⟩
  · obtain ⟨h1, τ, h2, h3⟩ := A.1 f hf
    refine ⟨h1, nm_pI τ 0 10 (nI f), ?_, pI_eq _ _ _ _, (h3.mono rfl).pI _ rfl⟩
    have kr := nm_ref (n := 6) (by omega) (by omega) (nm_pI τ 0 10 (nI f))
    have kp := pI_eq τ 0 10 (nI f)
    unfold Nm_island
    rw [bn0 k]
    simp (disch := omega) only [pl_0, pl_1, pl_2, pl_3, pl_4, pl_5, pl_6, pl_7, pl_8, pl_9, pl_10, pl_11, pl_12, pl_13, pl_14, pl_15, pl_16, pl_17, pl_18, pl_19, pl_20, pl_21, pl_30, pl_40, pl_50, pl_51, pl_60, pl_70, pl_71, pl_99, pl_100, pl_160, pl_240, pl_256, pl_300, pl_999, pl_1000, pl_1280, pl_9999, pl_10000, pu_neg, pu_nn, pu_le, pu_lt, pu_eq, pu_cl, pu_in, pu_g, ↓pu_let, ↓pu_bind, pu_m1, pu_add, pu_mul, Nat.not_lt_zero, if_false, if_true, Nat.zero_le, pu_d2, pu_d100, pu_em1, ↓reduceIte, Nat.reduceEqDiff, Nat.reduceLT, Nat.reduceLeDiff, Nat.reduceAdd, Nat.reduceMul, Nat.reduceSub, not_true_eq_false, not_false_eq_true, and_true, true_and, and_false, false_and, or_true, true_or, or_false, false_or, Nat.lt_irrefl, Nat.le_refl, Nat.add_zero, Bool.false_eq_true, ↓pu_gI, nd_le, nd_leT, nd_lt, nd_ltT, nd_eq, nd_eqT, sf_n, h2, kp, kr]
  · obtain ⟨h1, h0, τ, h2, h3, h4, h5⟩ := A.2 V d hd
    have kp := pI_eq τ 0 10 (-nI 1)
    obtain ⟨ρ, e3, u⟩ := is_become (o := 2) (h4.ne (k := 0) (by omega) 10 (-nI 1)) (by omega)
    have hd : ρ.1 42 5 = nI d := by
      rw [u.2.1 42 (by omega), pI_ne _ _ (by omega)]; exact h5
    refine ⟨h1, h0, ρ, ?_, ?_, u.1, ((h3.mono rfl).pI _ rfl).tr (u.2.fr2.mono rfl)⟩
    · unfold Nm_island
      rw [bn0 k]
      simp (disch := omega) only [pl_0, pl_1, pl_2, pl_3, pl_4, pl_5, pl_6, pl_7, pl_8, pl_9, pl_10, pl_11, pl_12, pl_13, pl_14, pl_15, pl_16, pl_17, pl_18, pl_19, pl_20, pl_21, pl_30, pl_40, pl_50, pl_51, pl_60, pl_70, pl_71, pl_99, pl_100, pl_160, pl_240, pl_256, pl_300, pl_999, pl_1000, pl_1280, pl_9999, pl_10000, pu_neg, pu_nn, pu_le, pu_lt, pu_eq, pu_cl, pu_in, pu_g, ↓pu_let, ↓pu_bind, pu_m1, pu_add, pu_mul, Nat.not_lt_zero, if_false, if_true, Nat.zero_le, pu_d2, pu_d100, pu_em1, ↓reduceIte, Nat.reduceEqDiff, Nat.reduceLT, Nat.reduceLeDiff, Nat.reduceAdd, Nat.reduceMul, Nat.reduceSub, not_true_eq_false, not_false_eq_true, and_true, true_and, and_false, false_and, or_true, true_or, or_false, false_or, Nat.lt_irrefl, Nat.le_refl, Nat.add_zero, Bool.false_eq_true, ↓pu_gI, nd_le, nd_leT, nd_lt, nd_ltT, nd_eq, nd_eqT, sf_n, h2, kp, e3, hd]
    · rw [u.2.1 0 (by omega)]; exact kp
end TAK
