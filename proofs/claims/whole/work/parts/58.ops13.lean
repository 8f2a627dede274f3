/-! the calls that look through sets -/
def OkH {β : Type} (T U : is_T) (E : Nat → Nat → Int64) (f g : nm_St → Option (β × nm_St)) : Prop := ∃ n a V, n ≤ 7 ∧ IslI V ∧ T 0 6 ≤ V 0 6 ∧ (∀ σ, CF σ T U E → ZR σ → ∃ ρ, f σ = some (a, if n = 0 then ρ else rfC ρ n) ∧ IslR ρ 2 V ∧ Fr [0, 1] σ ρ) ∧ (∀ σ, MF σ T U E → ∃ ρ, g σ = some (a, if n = 0 then ρ else rfM ρ n) ∧ MdR ρ V ∧ Fr [10, 11] σ ρ)
theorem ok_h {β : Type} {σ : nm_St} {T U : is_T} {E : Nat → Nat → Int64} {f g : nm_St → Option (β × nm_St)} (h : RelT σ T U E) (q : OkH T U E f g) : OkB σ f g := by
  obtain ⟨n, a, V, hn, hV, hle, hC, hM⟩ := q
  obtain ⟨hc, hm, hp, hx⟩ := h
  have hz : ZR σ := by
    obtain ⟨r, -, -, -, -, z⟩ := hx.2.2.2
    exact z
  obtain ⟨ρ, e1, i1, f1⟩ := hC σ hc hz
  have sh : ShI U (V 0 6) := fun s hs => by
    have := hp.2 s hs
    exact ⟨this.1, this.2.1, fun e => by have := this.2.2 e; omega⟩
  by_cases h0 : n = 0
  · rw [if_pos h0] at e1
    obtain ⟨τ', e2, i2, f2⟩ := hM ρ (hm.fr f1 rfl rfl rfl)
    rw [if_pos h0] at e2
    have F : Fr [0, 1, 10, 11] σ τ' := (f1.mono rfl).tr (f2.mono rfl)
    exact ⟨a, ρ, τ', e1, e2, V, U, E, ⟨i1.fr2 f2 rfl, hc.2.1.fr F rfl, hc.2.2.fr F rfl⟩, ⟨i2, hm.2.1.fr F rfl, hm.2.2.1.fr F rfl, hm.2.2.2.fr F rfl⟩, ⟨hV, sh⟩, hx.fr F rfl⟩
  · rw [if_neg h0] at e1
    have F1 : Fr [0, 1, 5] σ (rfC ρ n) := (f1.mono rfl).pI _ rfl
    obtain ⟨ρ2, e2, i2, f2⟩ := hM _ (hm.fr F1 rfl rfl rfl)
    rw [if_neg h0] at e2
    have F2 : Fr [10, 11, 15] (rfC ρ n) (rfM ρ2 n) := (f2.mono rfl).pI _ rfl
    have F : Fr [0, 1, 5, 10, 11, 15] σ (rfM ρ2 n) := (F1.mono rfl).tr (F2.mono rfl)
    have c1 : IslR (rfC ρ n) 2 V := i1.fr2 ((Fr.rf [5] ρ).pI _ rfl) rfl
    have m1 : MdR (rfM ρ2 n) V := i2.fr ((Fr.rf [15] ρ2).pI _ rfl) rfl
    refine ⟨a, _, _, e1, e2, V, U, E, ⟨c1.fr2 F2 rfl, hc.2.1.fr F rfl, hc.2.2.fr F rfl⟩, ⟨m1, hm.2.1.fr F rfl, hm.2.2.1.fr F rfl, hm.2.2.2.fr F rfl⟩, ⟨hV, sh⟩, hx.1.fr F rfl rfl, ?_, ?_, hx.2.2.2.fr F rfl rfl⟩
    · rw [(F 0 10 rfl).1, (F 70 6 rfl).1]; exact hx.2.1
    · intro i h1 h7
      have hr := hx.2.2.1 i h1 h7
      have a1 : (rfM ρ2 n).1 53 i = (rfC ρ n).1 53 i := (F2 53 i rfl).1
      have a2 : ∀ j, ρ2.1 71 j = σ.1 71 j := fun j => by
        rw [(f2 71 j rfl).1, (F1 71 j rfl).1]
      have a3 : ∀ j, ρ.1 53 j = σ.1 53 j := fun j => (f1 53 j rfl).1
      rw [a1]
      by_cases e : i = n
      · subst e
        unfold rfM rfC
        rw [pI_eq, pI_eq, a2, a3, hr]
      · unfold rfM rfC
        rw [pI_ne _ _ (by omega), pI_ne _ _ (by omega), a2, a3, hr]
theorem h_no {β : Type} {T U : is_T} {E : Nat → Nat → Int64} {f g : nm_St → Option (β × nm_St)} (hI : IslI T) (n : Nat) (h1 : 1 ≤ n) (h7 : n ≤ 7) {b : β} (hf : ∀ σ, CF σ T U E → f σ = some (b, rfC σ n)) (hg : ∀ σ, MF σ T U E → g σ = some (b, rfM σ n)) : OkH T U E f g := ⟨n, b, T, h7, hI, Nat.le_refl _, fun σ h _ => ⟨σ, by rw [if_neg (by omega)]; exact hf σ h, h.1, Fr.rf _ _⟩, fun σ h => ⟨σ, by rw [if_neg (by omega)]; exact hg σ h, h.1, Fr.rf _ _⟩⟩
theorem h_q {β : Type} {T U : is_T} {E : Nat → Nat → Int64} {f g : nm_St → Option (β × nm_St)} (hI : IslI T) (a : β) (hf : ∀ σ, CF σ T U E → ZR σ → ∃ τ, f σ = some (a, τ) ∧ Fr [0] σ τ) (hg : ∀ σ, MF σ T U E → g σ = some (a, σ)) : OkH T U E f g := ⟨0, a, T, by omega, hI, Nat.le_refl _, fun σ h hz => by
  obtain ⟨τ, e, f⟩ := hf σ h hz
  exact ⟨τ, by rw [if_pos rfl]; exact e, h.1.fr2 f rfl, f.mono rfl⟩, fun σ h => ⟨σ, by rw [if_pos rfl]; exact hg σ h, h.1, Fr.rf _ _⟩⟩
theorem sbs_0 (f : Nat → Bool) : ∀ n, (sbs f n).getD 0 0 = 0 := by
  intro n
  induction n with
  | zero => rfl
  | succ n ih =>
    cases e : f n with
    | true =>
      rw [sbs_t e, List.getD_eq_getElem?_getD, List.getElem?_append_left (by have := sbs_len f n; omega), ← List.getD_eq_getElem?_getD]
      exact ih
    | false => rw [sbs_f e]; exact ih
theorem sbs_x (f : Nat → Bool) : ∀ i, i < (sbs f 8).length → (sbs f 8).getD i 0 < 256 := by
  intro i hi
  rw [List.getD_eq_getElem?_getD, List.getElem?_eq_getElem hi]
  exact sbs_lt f 8 _ (List.getElem_mem hi)
section OPE
variable {T U : is_T} {E : Nat → Nat → Int64}
theorem op_fewest (hP : PF T U) : OkH T U E Nm_fewest Md_fewest := by
  have hI := hP.1
  obtain ⟨l1, l2⟩ := sbs_len (atB T 0) 8
  refine h_q hI (nI (fdM (fwG T) (suB (atB T 0)) (0, 9) (2 ^ T 0 6)).1 - nI 1) (fun σ h hz => ?_) (fun σ h => md_fewest h.1 hI)
  obtain ⟨τ, e, la, sf⟩ := se_layOut h.1 hz hI (Or.inl (by omega)) (f := atB T 0) (fun i hi => at_out hi)
  have h2 := h.1.sef sf (Or.inl (by omega))
  refine ⟨τ, ?_, sf.fr⟩
  rw [fd_same (fwG T) (atB T 0) (0, 9) hI.1 (fun i hi => at_out hi)]
  unfold Nm_fewest
  simp only [pl_0, pl_1, pl_2, pl_3, pl_4, pl_5, pl_6, pl_7, pl_8, pl_9, pl_10, pl_11, pl_12, pl_13, pl_14, pl_15, pl_16, pl_17, pl_18, pl_19, pl_20, pl_21, pl_30, pl_40, pl_50, pl_51, pl_60, pl_70, pl_71, pl_99, pl_100, pl_160, pl_240, pl_256, pl_300, pl_999, pl_1000, pl_1280, pl_9999, pl_10000, is_thoseAt h.1 hI (show 0 ≤ 3 by omega), e, pu_bind, is_knownAbroad h2 hI, is_allParts h2 hI]
  have := se_fewest hI la l2 (sbs_x _)
  unfold abK at this
  rw [this]
  rfl
theorem op_cheapest (hP : PF T U) (p1 : Int32) : OkH T U E (Nm_cheapest p1) (Md_cheapest p1) := by
  have hI := hP.1
  have hc := hI.1
  have hq := hI.2.2.2.1
  have h2p := pu_p2 hc
  rcases pu_ix p1 3 (by omega) with h1 | h1 | ⟨w, hw, rfl⟩
  · refine h_no hI (b := -nI 5 - nI 10) 5 (by omega) (by omega) (fun σ h => ?_) (fun σ h => ?_)
    · have kw : Nm_isWithin p1 (nI 0) (nI 2) σ = some (nI 0, σ) := by
        simp (disch := omega) only [Nm_isWithin, pl_0, pl_1, pl_2, pl_3, pl_4, pl_5, pl_6, pl_7, pl_8, pl_9, pl_10, pl_11, pl_12, pl_13, pl_14, pl_15, pl_16, pl_17, pl_18, pl_19, pl_20, pl_21, pl_30, pl_40, pl_50, pl_51, pl_60, pl_70, pl_71, pl_99, pl_100, pl_160, pl_240, pl_256, pl_300, pl_999, pl_1000, pl_1280, pl_9999, pl_10000, pu_neg, pu_nn, pu_le, pu_lt, pu_eq, pu_cl, pu_in, pu_g, ↓pu_let, ↓pu_bind, pu_m1, pu_add, pu_mul, Nat.not_lt_zero, if_false, if_true, Nat.zero_le, pu_d2, pu_d100, pu_em1, ↓reduceIte, Nat.reduceEqDiff, Nat.reduceLT, Nat.reduceLeDiff, Nat.reduceAdd, Nat.reduceMul, Nat.reduceSub, not_true_eq_false, not_false_eq_true, and_true, true_and, and_false, false_and, or_true, true_or, or_false, false_or, Nat.lt_irrefl, Nat.le_refl, Nat.add_zero, Bool.false_eq_true, ↓pu_gI, nd_le, nd_leT, nd_lt, nd_ltT, nd_eq, nd_eqT, ngl h1, nge h1, ngle h1, nggt h1, ngne h1]
      unfold Nm_cheapest
      refine (bn0 kw).trans ?_
      exact bind_of (nm_refF (n := 5) (by omega) (by omega) σ) rfl
    · simp (disch := omega) only [Md_cheapest, pl_0, pl_1, pl_2, pl_3, pl_4, pl_5, pl_6, pl_7, pl_8, pl_9, pl_10, pl_11, pl_12, pl_13, pl_14, pl_15, pl_16, pl_17, pl_18, pl_19, pl_20, pl_21, pl_30, pl_40, pl_50, pl_51, pl_60, pl_70, pl_71, pl_99, pl_100, pl_160, pl_240, pl_256, pl_300, pl_999, pl_1000, pl_1280, pl_9999, pl_10000, pu_neg, pu_nn, pu_le, pu_lt, pu_eq, pu_cl, pu_in, pu_g, ↓pu_let, ↓pu_bind, pu_m1, pu_add, pu_mul, Nat.not_lt_zero, if_false, if_true, Nat.zero_le, pu_d2, pu_d100, pu_em1, ↓reduceIte, Nat.reduceEqDiff, Nat.reduceLT, Nat.reduceLeDiff, Nat.reduceAdd, Nat.reduceMul, Nat.reduceSub, not_true_eq_false, not_false_eq_true, and_true, true_and, and_false, false_and, or_true, true_or, or_false, false_or, Nat.lt_irrefl, Nat.le_refl, Nat.add_zero, Bool.false_eq_true, ↓pu_gI, nd_le, nd_leT, nd_lt, nd_ltT, nd_eq, nd_eqT, ngl h1, nge h1, ngle h1, nggt h1, ngne h1, md_noT]
  · refine h_no hI (b := -nI 5 - nI 10) 5 (by omega) (by omega) (fun σ h => ?_) (fun σ h => ?_)
    · have kw : Nm_isWithin p1 (nI 0) (nI 2) σ = some (nI 0, σ) := by
        simp (disch := omega) only [Nm_isWithin, pl_0, pl_1, pl_2, pl_3, pl_4, pl_5, pl_6, pl_7, pl_8, pl_9, pl_10, pl_11, pl_12, pl_13, pl_14, pl_15, pl_16, pl_17, pl_18, pl_19, pl_20, pl_21, pl_30, pl_40, pl_50, pl_51, pl_60, pl_70, pl_71, pl_99, pl_100, pl_160, pl_240, pl_256, pl_300, pl_999, pl_1000, pl_1280, pl_9999, pl_10000, pu_neg, pu_nn, pu_le, pu_lt, pu_eq, pu_cl, pu_in, pu_g, ↓pu_let, ↓pu_bind, pu_m1, pu_add, pu_mul, Nat.not_lt_zero, if_false, if_true, Nat.zero_le, pu_d2, pu_d100, pu_em1, ↓reduceIte, Nat.reduceEqDiff, Nat.reduceLT, Nat.reduceLeDiff, Nat.reduceAdd, Nat.reduceMul, Nat.reduceSub, not_true_eq_false, not_false_eq_true, and_true, true_and, and_false, false_and, or_true, true_or, or_false, false_or, Nat.lt_irrefl, Nat.le_refl, Nat.add_zero, Bool.false_eq_true, ↓pu_gI, nd_le, nd_leT, nd_lt, nd_ltT, nd_eq, nd_eqT, bgl h1, bge h1, bgle h1, bggt h1, bgne h1, bgm1 h1]
      unfold Nm_cheapest
      refine (bn0 kw).trans ?_
      exact bind_of (nm_refF (n := 5) (by omega) (by omega) σ) rfl
    · simp (disch := omega) only [Md_cheapest, pl_0, pl_1, pl_2, pl_3, pl_4, pl_5, pl_6, pl_7, pl_8, pl_9, pl_10, pl_11, pl_12, pl_13, pl_14, pl_15, pl_16, pl_17, pl_18, pl_19, pl_20, pl_21, pl_30, pl_40, pl_50, pl_51, pl_60, pl_70, pl_71, pl_99, pl_100, pl_160, pl_240, pl_256, pl_300, pl_999, pl_1000, pl_1280, pl_9999, pl_10000, pu_neg, pu_nn, pu_le, pu_lt, pu_eq, pu_cl, pu_in, pu_g, ↓pu_let, ↓pu_bind, pu_m1, pu_add, pu_mul, Nat.not_lt_zero, if_false, if_true, Nat.zero_le, pu_d2, pu_d100, pu_em1, ↓reduceIte, Nat.reduceEqDiff, Nat.reduceLT, Nat.reduceLeDiff, Nat.reduceAdd, Nat.reduceMul, Nat.reduceSub, not_true_eq_false, not_false_eq_true, and_true, true_and, and_false, false_and, or_true, true_or, or_false, false_or, Nat.lt_irrefl, Nat.le_refl, Nat.add_zero, Bool.false_eq_true, ↓pu_gI, nd_le, nd_leT, nd_lt, nd_ltT, nd_eq, nd_eqT, bgl h1, bge h1, bgle h1, bggt h1, bgne h1, bgm1 h1, md_noT]
  obtain ⟨l1, l2⟩ := sbs_len (atB T 0) 8
  have hle := ch_le (T := T) (suB (atB T 0)) (2 ^ T 0 6)
  have hw3 : w = 0 ∨ w = 1 ∨ w = 2 := by omega
  have cls : ∀ σ, CF σ T U E → ZR σ → ∃ τ j, Fr [0] σ τ ∧ LA T τ (sbs (atB T 0) 8) ∧ IslR τ 2 T ∧ plR (sbs (atB T 0) 8) (sbs (atB T 0) 8).length (chS T) j ∧ Nm_cheapest (nI w) σ = (if w = 0 then (if j = -nI 1 then some (-nI 1, τ) else (Se_bitsOf j τ).bind fun q => some (q.1, q.2)) else if w = 1 then (if j = -nI 1 then some (-nI 1, τ) else (Se_costOf j τ).bind fun q => some (q.1, q.2)) else if j = -nI 1 then some (nI 0, τ) else (Se_costOf j τ).bind fun q => if (q.2.1 2 9) < q.1 then some (nI 0, q.2) else some (nI 1, q.2)) := fun σ h hz => by
    obtain ⟨τ, e, la, sf⟩ := se_layOut h.1 hz hI (Or.inl (by omega)) (f := atB T 0) (fun i hi => at_out hi)
    have h2 := h.1.sef sf (Or.inl (by omega))
    obtain ⟨j, e2, pl⟩ := se_cheap hI la l2
    rw [← fd_same (chG T) (atB T 0) 0 hc (fun i hi => at_out hi)] at pl
    refine ⟨τ, j, sf.fr, la, h2, pl, ?_⟩
    have kw : Nm_isWithin (nI w) (nI 0) (nI 2) σ = some (nI 1, σ) := by
      simp (disch := omega) only [Nm_isWithin, pl_0, pl_1, pl_2, pl_3, pl_4, pl_5, pl_6, pl_7, pl_8, pl_9, pl_10, pl_11, pl_12, pl_13, pl_14, pl_15, pl_16, pl_17, pl_18, pl_19, pl_20, pl_21, pl_30, pl_40, pl_50, pl_51, pl_60, pl_70, pl_71, pl_99, pl_100, pl_160, pl_240, pl_256, pl_300, pl_999, pl_1000, pl_1280, pl_9999, pl_10000, pu_neg, pu_nn, pu_le, pu_lt, pu_eq, pu_cl, pu_in, pu_g, ↓pu_let, ↓pu_bind, pu_m1, pu_add, pu_mul, Nat.not_lt_zero, if_false, if_true, Nat.zero_le, pu_d2, pu_d100, pu_em1, ↓reduceIte, Nat.reduceEqDiff, Nat.reduceLT, Nat.reduceLeDiff, Nat.reduceAdd, Nat.reduceMul, Nat.reduceSub, not_true_eq_false, not_false_eq_true, and_true, true_and, and_false, false_and, or_true, true_or, or_false, false_or, Nat.lt_irrefl, Nat.le_refl, Nat.add_zero, Bool.false_eq_true, ↓pu_gI, nd_le, nd_leT, nd_lt, nd_ltT, nd_eq, nd_eqT]
    unfold Nm_cheapest
    refine (bn1 kw).trans ?_
    unfold abK at e2
    simp only [pl_0, pl_1, pl_2, pl_3, pl_4, pl_5, pl_6, pl_7, pl_8, pl_9, pl_10, pl_11, pl_12, pl_13, pl_14, pl_15, pl_16, pl_17, pl_18, pl_19, pl_20, pl_21, pl_30, pl_40, pl_50, pl_51, pl_60, pl_70, pl_71, pl_99, pl_100, pl_160, pl_240, pl_256, pl_300, pl_999, pl_1000, pl_1280, pl_9999, pl_10000, is_thoseAt h.1 hI (show 0 ≤ 3 by omega), e, pu_bind, is_knownAbroad h2 hI, is_allParts h2 hI, e2]
    rcases hw3 with rfl | rfl | rfl
    · simp (disch := omega) only [pl_0, pl_1, pl_2, pl_3, pl_4, pl_5, pl_6, pl_7, pl_8, pl_9, pl_10, pl_11, pl_12, pl_13, pl_14, pl_15, pl_16, pl_17, pl_18, pl_19, pl_20, pl_21, pl_30, pl_40, pl_50, pl_51, pl_60, pl_70, pl_71, pl_99, pl_100, pl_160, pl_240, pl_256, pl_300, pl_999, pl_1000, pl_1280, pl_9999, pl_10000, pu_neg, pu_nn, pu_le, pu_lt, pu_eq, pu_cl, pu_in, pu_g, ↓pu_let, ↓pu_bind, pu_m1, pu_add, pu_mul, Nat.not_lt_zero, if_false, if_true, Nat.zero_le, pu_d2, pu_d100, pu_em1, ↓reduceIte, Nat.reduceEqDiff, Nat.reduceLT, Nat.reduceLeDiff, Nat.reduceAdd, Nat.reduceMul, Nat.reduceSub, not_true_eq_false, not_false_eq_true, and_true, true_and, and_false, false_and, or_true, true_or, or_false, false_or, Nat.lt_irrefl, Nat.le_refl, Nat.add_zero, Bool.false_eq_true, ↓pu_gI, nd_le, nd_leT, nd_lt, nd_ltT, nd_eq, nd_eqT]
    · simp (disch := omega) only [pl_0, pl_1, pl_2, pl_3, pl_4, pl_5, pl_6, pl_7, pl_8, pl_9, pl_10, pl_11, pl_12, pl_13, pl_14, pl_15, pl_16, pl_17, pl_18, pl_19, pl_20, pl_21, pl_30, pl_40, pl_50, pl_51, pl_60, pl_70, pl_71, pl_99, pl_100, pl_160, pl_240, pl_256, pl_300, pl_999, pl_1000, pl_1280, pl_9999, pl_10000, pu_neg, pu_nn, pu_le, pu_lt, pu_eq, pu_cl, pu_in, pu_g, ↓pu_let, ↓pu_bind, pu_m1, pu_add, pu_mul, Nat.not_lt_zero, if_false, if_true, Nat.zero_le, pu_d2, pu_d100, pu_em1, ↓reduceIte, Nat.reduceEqDiff, Nat.reduceLT, Nat.reduceLeDiff, Nat.reduceAdd, Nat.reduceMul, Nat.reduceSub, not_true_eq_false, not_false_eq_true, and_true, true_and, and_false, false_and, or_true, true_or, or_false, false_or, Nat.lt_irrefl, Nat.le_refl, Nat.add_zero, Bool.false_eq_true, ↓pu_gI, nd_le, nd_leT, nd_lt, nd_ltT, nd_eq, nd_eqT]
    · simp (disch := omega) only [pl_0, pl_1, pl_2, pl_3, pl_4, pl_5, pl_6, pl_7, pl_8, pl_9, pl_10, pl_11, pl_12, pl_13, pl_14, pl_15, pl_16, pl_17, pl_18, pl_19, pl_20, pl_21, pl_30, pl_40, pl_50, pl_51, pl_60, pl_70, pl_71, pl_99, pl_100, pl_160, pl_240, pl_256, pl_300, pl_999, pl_1000, pl_1280, pl_9999, pl_10000, pu_neg, pu_nn, pu_le, pu_lt, pu_eq, pu_cl, pu_in, pu_g, ↓pu_let, ↓pu_bind, pu_m1, pu_add, pu_mul, Nat.not_lt_zero, if_false, if_true, Nat.zero_le, pu_d2, pu_d100, pu_em1, ↓reduceIte, Nat.reduceEqDiff, Nat.reduceLT, Nat.reduceLeDiff, Nat.reduceAdd, Nat.reduceMul, Nat.reduceSub, not_true_eq_false, not_false_eq_true, and_true, true_and, and_false, false_and, or_true, true_or, or_false, false_or, Nat.lt_irrefl, Nat.le_refl, Nat.add_zero, Bool.false_eq_true, ↓pu_gI, nd_le, nd_leT, nd_lt, nd_ltT, nd_eq, nd_eqT]
  by_cases b0 : chS T = 0
  · refine h_q hI (if w = 2 then nI 0 else -nI 1) (fun σ h hz => ?_) (fun σ h => ?_)
    · obtain ⟨τ, j, F, la, i2, pl, k⟩ := cls σ h hz
      refine ⟨τ, ?_, F⟩
      rcases pl with ⟨-, rfl⟩ | ⟨k', -, -, hb⟩
      · rw [k]
        rcases hw3 with rfl | rfl | rfl
        · simp
        · simp
        · simp
      · omega
    · have km := md_cheapestSet h.1 hI
      rw [b0, pu_01] at km
      rcases hw3 with rfl | rfl | rfl
      all_goals simp (disch := omega) only [Md_cheapest, pl_0, pl_1, pl_2, pl_3, pl_4, pl_5, pl_6, pl_7, pl_8, pl_9, pl_10, pl_11, pl_12, pl_13, pl_14, pl_15, pl_16, pl_17, pl_18, pl_19, pl_20, pl_21, pl_30, pl_40, pl_50, pl_51, pl_60, pl_70, pl_71, pl_99, pl_100, pl_160, pl_240, pl_256, pl_300, pl_999, pl_1000, pl_1280, pl_9999, pl_10000, pu_neg, pu_nn, pu_le, pu_lt, pu_eq, pu_cl, pu_in, pu_g, ↓pu_let, ↓pu_bind, pu_m1, pu_add, pu_mul, Nat.not_lt_zero, if_false, if_true, Nat.zero_le, pu_d2, pu_d100, pu_em1, ↓reduceIte, Nat.reduceEqDiff, Nat.reduceLT, Nat.reduceLeDiff, Nat.reduceAdd, Nat.reduceMul, Nat.reduceSub, not_true_eq_false, not_false_eq_true, and_true, true_and, and_false, false_and, or_true, true_or, or_false, false_or, Nat.lt_irrefl, Nat.le_refl, Nat.add_zero, Bool.false_eq_true, ↓pu_gI, nd_le, nd_leT, nd_lt, nd_ltT, nd_eq, nd_eqT, km]
  · obtain ⟨x, hx⟩ : ∃ x, chS T = x + 1 := ⟨chS T - 1, by omega⟩
    have hx2 : x < 2 ^ T 0 6 := by unfold chS at hx; omega
    have hpr := prS_le hI x
    refine h_q hI (if w = 0 then nI x else if w = 1 then nI (prS T x) else if T 0 9 < prS T x then nI 0 else nI 1) (fun σ h hz => ?_) (fun σ h => ?_)
    · obtain ⟨τ, j, F, la, i2, pl, k⟩ := cls σ h hz
      refine ⟨τ, ?_, F⟩
      rcases pl with ⟨q, -⟩ | ⟨k', hk, rfl, hb⟩
      · omega
      · rw [k]
        have ex : (sbs (atB T 0) 8).getD k' 0 = x := by omega
        obtain ⟨q1, q2, q3⟩ := la.2 k' hk
        rw [ex] at q1 q2
        have kb : Se_bitsOf (nI k') τ = some (nI x, τ) := by
          simp (disch := omega) only [Se_bitsOf, pl_0, pl_1, pl_2, pl_3, pl_4, pl_5, pl_6, pl_7, pl_8, pl_9, pl_10, pl_11, pl_12, pl_13, pl_14, pl_15, pl_16, pl_17, pl_18, pl_19, pl_20, pl_21, pl_30, pl_40, pl_50, pl_51, pl_60, pl_70, pl_71, pl_99, pl_100, pl_160, pl_240, pl_256, pl_300, pl_999, pl_1000, pl_1280, pl_9999, pl_10000, pu_neg, pu_nn, pu_le, pu_lt, pu_eq, pu_cl, pu_in, pu_g, ↓pu_let, ↓pu_bind, pu_m1, pu_add, pu_mul, Nat.not_lt_zero, if_false, if_true, Nat.zero_le, pu_d2, pu_d100, pu_em1, ↓reduceIte, Nat.reduceEqDiff, Nat.reduceLT, Nat.reduceLeDiff, Nat.reduceAdd, Nat.reduceMul, Nat.reduceSub, not_true_eq_false, not_false_eq_true, and_true, true_and, and_false, false_and, or_true, true_or, or_false, false_or, Nat.lt_irrefl, Nat.le_refl, Nat.add_zero, Bool.false_eq_true, ↓pu_gI, nd_le, nd_leT, nd_lt, nd_ltT, nd_eq, nd_eqT, la.1, q1]
        have kc : Se_costOf (nI k') τ = some (nI (prS T x), τ) := by
          simp (disch := omega) only [Se_costOf, pl_0, pl_1, pl_2, pl_3, pl_4, pl_5, pl_6, pl_7, pl_8, pl_9, pl_10, pl_11, pl_12, pl_13, pl_14, pl_15, pl_16, pl_17, pl_18, pl_19, pl_20, pl_21, pl_30, pl_40, pl_50, pl_51, pl_60, pl_70, pl_71, pl_99, pl_100, pl_160, pl_240, pl_256, pl_300, pl_999, pl_1000, pl_1280, pl_9999, pl_10000, pu_neg, pu_nn, pu_le, pu_lt, pu_eq, pu_cl, pu_in, pu_g, ↓pu_let, ↓pu_bind, pu_m1, pu_add, pu_mul, Nat.not_lt_zero, if_false, if_true, Nat.zero_le, pu_d2, pu_d100, pu_em1, ↓reduceIte, Nat.reduceEqDiff, Nat.reduceLT, Nat.reduceLeDiff, Nat.reduceAdd, Nat.reduceMul, Nat.reduceSub, not_true_eq_false, not_false_eq_true, and_true, true_and, and_false, false_and, or_true, true_or, or_false, false_or, Nat.lt_irrefl, Nat.le_refl, Nat.add_zero, Bool.false_eq_true, ↓pu_gI, nd_le, nd_leT, nd_lt, nd_ltT, nd_eq, nd_eqT, la.1, q2]
        rcases hw3 with rfl | rfl | rfl
        · simp (disch := omega) only [pl_0, pl_1, pl_2, pl_3, pl_4, pl_5, pl_6, pl_7, pl_8, pl_9, pl_10, pl_11, pl_12, pl_13, pl_14, pl_15, pl_16, pl_17, pl_18, pl_19, pl_20, pl_21, pl_30, pl_40, pl_50, pl_51, pl_60, pl_70, pl_71, pl_99, pl_100, pl_160, pl_240, pl_256, pl_300, pl_999, pl_1000, pl_1280, pl_9999, pl_10000, pu_neg, pu_nn, pu_le, pu_lt, pu_eq, pu_cl, pu_in, pu_g, ↓pu_let, ↓pu_bind, pu_m1, pu_add, pu_mul, Nat.not_lt_zero, if_false, if_true, Nat.zero_le, pu_d2, pu_d100, pu_em1, ↓reduceIte, Nat.reduceEqDiff, Nat.reduceLT, Nat.reduceLeDiff, Nat.reduceAdd, Nat.reduceMul, Nat.reduceSub, not_true_eq_false, not_false_eq_true, and_true, true_and, and_false, false_and, or_true, true_or, or_false, false_or, Nat.lt_irrefl, Nat.le_refl, Nat.add_zero, Bool.false_eq_true, ↓pu_gI, nd_le, nd_leT, nd_lt, nd_ltT, nd_eq, nd_eqT, kb]
        · simp (disch := omega) only [pl_0, pl_1, pl_2, pl_3, pl_4, pl_5, pl_6, pl_7, pl_8, pl_9, pl_10, pl_11, pl_12, pl_13, pl_14, pl_15, pl_16, pl_17, pl_18, pl_19, pl_20, pl_21, pl_30, pl_40, pl_50, pl_51, pl_60, pl_70, pl_71, pl_99, pl_100, pl_160, pl_240, pl_256, pl_300, pl_999, pl_1000, pl_1280, pl_9999, pl_10000, pu_neg, pu_nn, pu_le, pu_lt, pu_eq, pu_cl, pu_in, pu_g, ↓pu_let, ↓pu_bind, pu_m1, pu_add, pu_mul, Nat.not_lt_zero, if_false, if_true, Nat.zero_le, pu_d2, pu_d100, pu_em1, ↓reduceIte, Nat.reduceEqDiff, Nat.reduceLT, Nat.reduceLeDiff, Nat.reduceAdd, Nat.reduceMul, Nat.reduceSub, not_true_eq_false, not_false_eq_true, and_true, true_and, and_false, false_and, or_true, true_or, or_false, false_or, Nat.lt_irrefl, Nat.le_refl, Nat.add_zero, Bool.false_eq_true, ↓pu_gI, nd_le, nd_leT, nd_lt, nd_ltT, nd_eq, nd_eqT, kc]
        · simp (disch := omega) only [pl_0, pl_1, pl_2, pl_3, pl_4, pl_5, pl_6, pl_7, pl_8, pl_9, pl_10, pl_11, pl_12, pl_13, pl_14, pl_15, pl_16, pl_17, pl_18, pl_19, pl_20, pl_21, pl_30, pl_40, pl_50, pl_51, pl_60, pl_70, pl_71, pl_99, pl_100, pl_160, pl_240, pl_256, pl_300, pl_999, pl_1000, pl_1280, pl_9999, pl_10000, pu_neg, pu_nn, pu_le, pu_lt, pu_eq, pu_cl, pu_in, pu_g, ↓pu_let, ↓pu_bind, pu_m1, pu_add, pu_mul, Nat.not_lt_zero, if_false, if_true, Nat.zero_le, pu_d2, pu_d100, pu_em1, ↓reduceIte, Nat.reduceEqDiff, Nat.reduceLT, Nat.reduceLeDiff, Nat.reduceAdd, Nat.reduceMul, Nat.reduceSub, not_true_eq_false, not_false_eq_true, and_true, true_and, and_false, false_and, or_true, true_or, or_false, false_or, Nat.lt_irrefl, Nat.le_refl, Nat.add_zero, Bool.false_eq_true, ↓pu_gI, nd_le, nd_leT, nd_lt, nd_ltT, nd_eq, nd_eqT, kc, i2.q]
          by_cases z : T 0 9 < prS T x <;> simp [z]
    · have km := md_cheapestSet h.1 hI
      rw [hx, pu_pred] at km
      have kp := md_prices h.1 hI hx2
      rcases hw3 with rfl | rfl | rfl
      · simp (disch := omega) only [Md_cheapest, pl_0, pl_1, pl_2, pl_3, pl_4, pl_5, pl_6, pl_7, pl_8, pl_9, pl_10, pl_11, pl_12, pl_13, pl_14, pl_15, pl_16, pl_17, pl_18, pl_19, pl_20, pl_21, pl_30, pl_40, pl_50, pl_51, pl_60, pl_70, pl_71, pl_99, pl_100, pl_160, pl_240, pl_256, pl_300, pl_999, pl_1000, pl_1280, pl_9999, pl_10000, pu_neg, pu_nn, pu_le, pu_lt, pu_eq, pu_cl, pu_in, pu_g, ↓pu_let, ↓pu_bind, pu_m1, pu_add, pu_mul, Nat.not_lt_zero, if_false, if_true, Nat.zero_le, pu_d2, pu_d100, pu_em1, ↓reduceIte, Nat.reduceEqDiff, Nat.reduceLT, Nat.reduceLeDiff, Nat.reduceAdd, Nat.reduceMul, Nat.reduceSub, not_true_eq_false, not_false_eq_true, and_true, true_and, and_false, false_and, or_true, true_or, or_false, false_or, Nat.lt_irrefl, Nat.le_refl, Nat.add_zero, Bool.false_eq_true, ↓pu_gI, nd_le, nd_leT, nd_lt, nd_ltT, nd_eq, nd_eqT, km]
      · simp (disch := omega) only [Md_cheapest, pl_0, pl_1, pl_2, pl_3, pl_4, pl_5, pl_6, pl_7, pl_8, pl_9, pl_10, pl_11, pl_12, pl_13, pl_14, pl_15, pl_16, pl_17, pl_18, pl_19, pl_20, pl_21, pl_30, pl_40, pl_50, pl_51, pl_60, pl_70, pl_71, pl_99, pl_100, pl_160, pl_240, pl_256, pl_300, pl_999, pl_1000, pl_1280, pl_9999, pl_10000, pu_neg, pu_nn, pu_le, pu_lt, pu_eq, pu_cl, pu_in, pu_g, ↓pu_let, ↓pu_bind, pu_m1, pu_add, pu_mul, Nat.not_lt_zero, if_false, if_true, Nat.zero_le, pu_d2, pu_d100, pu_em1, ↓reduceIte, Nat.reduceEqDiff, Nat.reduceLT, Nat.reduceLeDiff, Nat.reduceAdd, Nat.reduceMul, Nat.reduceSub, not_true_eq_false, not_false_eq_true, and_true, true_and, and_false, false_and, or_true, true_or, or_false, false_or, Nat.lt_irrefl, Nat.le_refl, Nat.add_zero, Bool.false_eq_true, ↓pu_gI, nd_le, nd_leT, nd_lt, nd_ltT, nd_eq, nd_eqT, km, kp]
      · simp (disch := omega) only [Md_cheapest, pl_0, pl_1, pl_2, pl_3, pl_4, pl_5, pl_6, pl_7, pl_8, pl_9, pl_10, pl_11, pl_12, pl_13, pl_14, pl_15, pl_16, pl_17, pl_18, pl_19, pl_20, pl_21, pl_30, pl_40, pl_50, pl_51, pl_60, pl_70, pl_71, pl_99, pl_100, pl_160, pl_240, pl_256, pl_300, pl_999, pl_1000, pl_1280, pl_9999, pl_10000, pu_neg, pu_nn, pu_le, pu_lt, pu_eq, pu_cl, pu_in, pu_g, ↓pu_let, ↓pu_bind, pu_m1, pu_add, pu_mul, Nat.not_lt_zero, if_false, if_true, Nat.zero_le, pu_d2, pu_d100, pu_em1, ↓reduceIte, Nat.reduceEqDiff, Nat.reduceLT, Nat.reduceLeDiff, Nat.reduceAdd, Nat.reduceMul, Nat.reduceSub, not_true_eq_false, not_false_eq_true, and_true, true_and, and_false, false_and, or_true, true_or, or_false, false_or, Nat.lt_irrefl, Nat.le_refl, Nat.add_zero, Bool.false_eq_true, ↓pu_gI, nd_le, nd_leT, nd_lt, nd_ltT, nd_eq, nd_eqT, km, kp, h.1.q]
        by_cases z : T 0 9 < prS T x <;> simp [z]
theorem op_sold (hP : PF T U) (p1 : Int32) : OkH T U E (Nm_sold p1) (Md_sold p1) := by
  have hI := hP.1
  have hc := hI.1
  have bad : (p1 < nI 1 ∨ nI 9 ≤ p1) → OkH T U E (Nm_sold p1) (Md_sold p1) := fun hb => by
    refine h_no hI (b := -nI 6) 6 (by omega) (by omega) (fun σ h => ?_) (fun σ h => ?_)
    · have kw : Nm_isWithin p1 (nI 1) (nI 8) σ = some (nI 0, σ) := by
        rcases hb with hb | hb
        · unfold Nm_isWithin
          rw [if_pos hb]; rfl
        · simp (disch := omega) only [Nm_isWithin, pl_0, pl_1, pl_2, pl_3, pl_4, pl_5, pl_6, pl_7, pl_8, pl_9, pl_10, pl_11, pl_12, pl_13, pl_14, pl_15, pl_16, pl_17, pl_18, pl_19, pl_20, pl_21, pl_30, pl_40, pl_50, pl_51, pl_60, pl_70, pl_71, pl_99, pl_100, pl_160, pl_240, pl_256, pl_300, pl_999, pl_1000, pl_1280, pl_9999, pl_10000, pu_neg, pu_nn, pu_le, pu_lt, pu_eq, pu_cl, pu_in, pu_g, ↓pu_let, ↓pu_bind, pu_m1, pu_add, pu_mul, Nat.not_lt_zero, if_false, if_true, Nat.zero_le, pu_d2, pu_d100, pu_em1, ↓reduceIte, Nat.reduceEqDiff, Nat.reduceLT, Nat.reduceLeDiff, Nat.reduceAdd, Nat.reduceMul, Nat.reduceSub, not_true_eq_false, not_false_eq_true, and_true, true_and, and_false, false_and, or_true, true_or, or_false, false_or, Nat.lt_irrefl, Nat.le_refl, Nat.add_zero, Bool.false_eq_true, ↓pu_gI, nd_le, nd_leT, nd_lt, nd_ltT, nd_eq, nd_eqT, bgl hb, bge hb, bgle hb, bggt hb, bgne hb, bgm1 hb]
      unfold Nm_sold
      refine (bn0 kw).trans ?_
      exact bind_of (nm_ref (n := 6) (by omega) (by omega) σ) rfl
    · rcases hb with hb | hb
      · unfold Md_sold
        rw [show (1 : Int32) = nI 1 from rfl, if_pos hb]
        exact bind_of (md_no (n := 6) (by omega) (by omega) σ) rfl
      · simp (disch := omega) only [Md_sold, pl_0, pl_1, pl_2, pl_3, pl_4, pl_5, pl_6, pl_7, pl_8, pl_9, pl_10, pl_11, pl_12, pl_13, pl_14, pl_15, pl_16, pl_17, pl_18, pl_19, pl_20, pl_21, pl_30, pl_40, pl_50, pl_51, pl_60, pl_70, pl_71, pl_99, pl_100, pl_160, pl_240, pl_256, pl_300, pl_999, pl_1000, pl_1280, pl_9999, pl_10000, pu_neg, pu_nn, pu_le, pu_lt, pu_eq, pu_cl, pu_in, pu_g, ↓pu_let, ↓pu_bind, pu_m1, pu_add, pu_mul, Nat.not_lt_zero, if_false, if_true, Nat.zero_le, pu_d2, pu_d100, pu_em1, ↓reduceIte, Nat.reduceEqDiff, Nat.reduceLT, Nat.reduceLeDiff, Nat.reduceAdd, Nat.reduceMul, Nat.reduceSub, not_true_eq_false, not_false_eq_true, and_true, true_and, and_false, false_and, or_true, true_or, or_false, false_or, Nat.lt_irrefl, Nat.le_refl, Nat.add_zero, Bool.false_eq_true, ↓pu_gI, nd_le, nd_leT, nd_lt, nd_ltT, nd_eq, nd_eqT, bgl hb, bge hb, bgle hb, bggt hb, bgne hb, bgm1 hb, md_no]
  rcases pu_ix p1 9 (by omega) with h1 | h1 | ⟨k, hk, rfl⟩
  · exact bad (Or.inl (by rw [ngl h1 (by omega)]; trivial))
  · exact bad (Or.inr h1)
  by_cases k0 : k = 0
  · subst k0
    exact bad (Or.inl (nI_lt (by omega) (by omega)))
  obtain ⟨l1, l2⟩ := sbs_len (alvB T) 8
  refine h_q hI (nI (if fdM (fun x b => b || anB T k x) (suB (alvB T)) false (2 ^ T 0 6) then 1 else 0)) (fun σ h hz => ?_) (fun σ h => ?_)
  · obtain ⟨τ, e, la, sf⟩ := se_layOut h.1 hz hI (Or.inl (by omega)) (f := alvB T) (fun i hi => alv_out hi)
    have h2 := h.1.sef sf (Or.inl (by omega))
    refine ⟨τ, ?_, sf.fr⟩
    rw [fd_same (fun x b => b || anB T k x) (alvB T) false hc (fun i hi => alv_out hi)]
    have kw : Nm_isWithin (nI k) (nI 1) (nI 8) σ = some (nI 1, σ) := by
      simp (disch := omega) only [Nm_isWithin, pl_0, pl_1, pl_2, pl_3, pl_4, pl_5, pl_6, pl_7, pl_8, pl_9, pl_10, pl_11, pl_12, pl_13, pl_14, pl_15, pl_16, pl_17, pl_18, pl_19, pl_20, pl_21, pl_30, pl_40, pl_50, pl_51, pl_60, pl_70, pl_71, pl_99, pl_100, pl_160, pl_240, pl_256, pl_300, pl_999, pl_1000, pl_1280, pl_9999, pl_10000, pu_neg, pu_nn, pu_le, pu_lt, pu_eq, pu_cl, pu_in, pu_g, ↓pu_let, ↓pu_bind, pu_m1, pu_add, pu_mul, Nat.not_lt_zero, if_false, if_true, Nat.zero_le, pu_d2, pu_d100, pu_em1, ↓reduceIte, Nat.reduceEqDiff, Nat.reduceLT, Nat.reduceLeDiff, Nat.reduceAdd, Nat.reduceMul, Nat.reduceSub, not_true_eq_false, not_false_eq_true, and_true, true_and, and_false, false_and, or_true, true_or, or_false, false_or, Nat.lt_irrefl, Nat.le_refl, Nat.add_zero, Bool.false_eq_true, ↓pu_gI, nd_le, nd_leT, nd_lt, nd_ltT, nd_eq, nd_eqT]
    have ka := se_any hI la l2 (sbs_x _) (show k ≤ 8 by omega)
    unfold Nm_sold
    refine (bn1 kw).trans ?_
    simp only [pl_0, pl_1, pl_2, pl_3, pl_4, pl_5, pl_6, pl_7, pl_8, pl_9, pl_10, pl_11, pl_12, pl_13, pl_14, pl_15, pl_16, pl_17, pl_18, pl_19, pl_20, pl_21, pl_30, pl_40, pl_50, pl_51, pl_60, pl_70, pl_71, pl_99, pl_100, pl_160, pl_240, pl_256, pl_300, pl_999, pl_1000, pl_1280, pl_9999, pl_10000, is_thoseAlive h.1 hI, e, pu_bind, is_allParts h2 hI, ka]
    cases fdL (fun x b => b || anB T k x) (sbs (alvB T) 8) false (sbs (alvB T) 8).length <;> rfl
  · have km := md_soldL h.1 hI (show k ≤ 8 by omega)
    simp (disch := omega) only [Md_sold, pl_0, pl_1, pl_2, pl_3, pl_4, pl_5, pl_6, pl_7, pl_8, pl_9, pl_10, pl_11, pl_12, pl_13, pl_14, pl_15, pl_16, pl_17, pl_18, pl_19, pl_20, pl_21, pl_30, pl_40, pl_50, pl_51, pl_60, pl_70, pl_71, pl_99, pl_100, pl_160, pl_240, pl_256, pl_300, pl_999, pl_1000, pl_1280, pl_9999, pl_10000, pu_neg, pu_nn, pu_le, pu_lt, pu_eq, pu_cl, pu_in, pu_g, ↓pu_let, ↓pu_bind, pu_m1, pu_add, pu_mul, Nat.not_lt_zero, if_false, if_true, Nat.zero_le, pu_d2, pu_d100, pu_em1, ↓reduceIte, Nat.reduceEqDiff, Nat.reduceLT, Nat.reduceLeDiff, Nat.reduceAdd, Nat.reduceMul, Nat.reduceSub, not_true_eq_false, not_false_eq_true, and_true, true_and, and_false, false_and, or_true, true_or, or_false, false_or, Nat.lt_irrefl, Nat.le_refl, Nat.add_zero, Bool.false_eq_true, ↓pu_gI, nd_le, nd_leT, nd_lt, nd_ltT, nd_eq, nd_eqT, md_living h.1 hI] at km ⊢
    exact km
theorem op_spend (hP : PF T U) : OkH T U E Nm_spend Md_spend := by
  have hI := hP.1
  obtain ⟨l1, l2⟩ := sbs_len (atB T 0) 8
  refine h_q hI (nI (fdM (bfG T) (suB (atB T 0)) (0, 0) (2 ^ T 0 6)).1) (fun σ h hz => ?_) (fun σ h => md_spend h.1 hI)
  obtain ⟨τ, e, la, sf⟩ := se_layOut h.1 hz hI (Or.inl (by omega)) (f := atB T 0) (fun i hi => at_out hi)
  have h2 := h.1.sef sf (Or.inl (by omega))
  refine ⟨τ, ?_, sf.fr⟩
  rw [fd_same (bfG T) (atB T 0) (0, 0) hI.1 (fun i hi => at_out hi)]
  have := se_best hI la l1 l2 (sbs_0 _ 8)
  unfold abK at this
  unfold Nm_spend
  simp only [pl_0, pl_1, pl_2, pl_3, pl_4, pl_5, pl_6, pl_7, pl_8, pl_9, pl_10, pl_11, pl_12, pl_13, pl_14, pl_15, pl_16, pl_17, pl_18, pl_19, pl_20, pl_21, pl_30, pl_40, pl_50, pl_51, pl_60, pl_70, pl_71, pl_99, pl_100, pl_160, pl_240, pl_256, pl_300, pl_999, pl_1000, pl_1280, pl_9999, pl_10000, is_thoseAt h.1 hI (show 0 ≤ 3 by omega), e, pu_bind, is_knownAbroad h2 hI, h2.q, this]
end OPE
