/-! calls: alone, lessons, offer, shelves told -/
theorem pu_pred (n : Nat) : nI (n + 1) - nI 1 = nI n := nI_pred n
theorem pu_01 : nI 0 - nI 1 = -nI 1 := by decide +kernel
theorem pcN_0 : pcN 0 = 0 := by decide
theorem bts_ex {f : Nat → Bool} : ∀ n, bts f n ≠ 0 → ∃ q, q < n ∧ f q = true := by
  intro n
  induction n with
  | zero => intro h; exact absurd rfl h
  | succ n ih =>
    intro h
    cases e : f n with
    | true => exact ⟨n, by omega, e⟩
    | false =>
      rw [bts_f e] at h
      obtain ⟨q, h1, h2⟩ := ih h
      exact ⟨q, by omega, h2⟩
theorem cnt_ex {f : Nat → Bool} : ∀ n, cntB f n ≠ 0 → ∃ q, q < n ∧ f q = true := by
  intro n
  induction n with
  | zero => intro h; exact absurd rfl h
  | succ n ih =>
    intro h
    cases e : f n with
    | true => exact ⟨n, by omega, e⟩
    | false =>
      rw [cnt_f e] at h
      obtain ⟨q, h1, h2⟩ := ih h
      exact ⟨q, by omega, h2⟩
theorem cnt_pos {f : Nat → Bool} {i : Nat} (h : f i = true) : ∀ n, i < n → 0 < cntB f n := by
  intro n
  induction n with
  | zero => intro h; omega
  | succ n ih =>
    intro hi
    by_cases z : i = n
    · subst z; rw [cnt_t h]; omega
    · cases e : f n with
      | true => rw [cnt_t e]; omega
      | false => rw [cnt_f e]; exact ih (by omega)
/-- who knows most of s, the first: his number and 1 (0: none), and how many -/
def fkS (T : is_T) (s : Nat) : Nat → Nat × Nat
  | 0 => (0, 0)
  | n + 1 => if alvB T n && decide ((fkS T s n).2 < pcN (T 4 n &&& s)) then (n + 1, pcN (T 4 n &&& s)) else fkS T s n
theorem fk_t {T : is_T} {s n : Nat} (h : (alvB T n && decide ((fkS T s n).2 < pcN (T 4 n &&& s))) = true) : fkS T s (n + 1) = (n + 1, pcN (T 4 n &&& s)) := if_pos h
theorem fk_f {T : is_T} {s n : Nat} (h : (alvB T n && decide ((fkS T s n).2 < pcN (T 4 n &&& s))) = false) : fkS T s (n + 1) = fkS T s n := if_neg (by rw [h]; decide)
theorem fk_le (T : is_T) (s : Nat) : ∀ n, (fkS T s n).1 ≤ n ∧ (fkS T s n).2 ≤ 8 := by
  intro n
  induction n with
  | zero => exact ⟨Nat.le_refl _, by show 0 ≤ 8; omega⟩
  | succ n ih =>
    cases e : (alvB T n && decide ((fkS T s n).2 < pcN (T 4 n &&& s))) with
    | true => rw [fk_t e]; exact ⟨Nat.le_refl _, pcN_le _⟩
    | false => rw [fk_f e]; exact ⟨by omega, ih.2⟩
theorem fk_inv (T : is_T) (s : Nat) : ∀ n, ((fkS T s n).2 = 0 ∧ (fkS T s n).1 = 0) ∨ ∃ j, j < n ∧ (fkS T s n).1 = j + 1 ∧ alvB T j = true ∧ (fkS T s n).2 = pcN (T 4 j &&& s) ∧ 0 < (fkS T s n).2 := by
  intro n
  induction n with
  | zero => exact Or.inl ⟨rfl, rfl⟩
  | succ n ih =>
    cases e : (alvB T n && decide ((fkS T s n).2 < pcN (T 4 n &&& s))) with
    | true =>
      rw [fk_t e]
      simp only [Bool.and_eq_true, decide_eq_true_eq] at e
      exact Or.inr ⟨n, by omega, rfl, e.1, rfl, by show 0 < pcN _; omega⟩
    | false =>
      rw [fk_f e]
      rcases ih with h | ⟨j, h1, h2⟩
      · exact Or.inl h
      · exact Or.inr ⟨j, by omega, h2⟩
theorem fk_ge {T : is_T} {s j : Nat} (ha : alvB T j = true) : ∀ n, j < n → pcN (T 4 j &&& s) ≤ (fkS T s n).2 := by
  intro n
  induction n with
  | zero => intro h; omega
  | succ n ih =>
    intro h
    cases e : (alvB T n && decide ((fkS T s n).2 < pcN (T 4 n &&& s))) with
    | true =>
      rw [fk_t e]
      simp only [Bool.and_eq_true, decide_eq_true_eq] at e
      by_cases z : j = n
      · rw [z]; exact Nat.le_refl _
      · have := ih (by omega)
        show _ ≤ pcN _
        omega
    | false =>
      rw [fk_f e]
      by_cases z : j = n
      · subst z
        rw [ha, Bool.true_and, decide_eq_false_iff_not] at e
        omega
      · exact ih (by omega)
theorem fk_to {T : is_T} {s c : Nat} (hc : T 0 6 = c) : ∀ n, c ≤ n → fkS T s n = fkS T s c := by
  intro n
  induction n with
  | zero => intro h; rw [show c = 0 by omega]
  | succ n ih =>
    intro h
    by_cases e : c = n + 1
    · rw [e]
    · rw [fk_f (by rw [alv_out (by omega)]; rfl)]
      exact ih (by omega)
/-- the parts that one alone knows -/
def aloN (T : is_T) : Nat := bts (k1B T) (T 0 7)
theorem alo_lt {T : is_T} (hI : IslI T) : aloN T < 256 := by
  have h1 := bts_lt (k1B T) (T 0 7)
  have h2 := (pu_p2 hI.2.1.2).2
  unfold aloN
  omega
theorem alo_pos {T : is_T} (hI : IslI T) (h : aloN T ≠ 0) : 0 < (fkS T (aloN T) (T 0 6)).2 := by
  have hc := hI.1
  have hp := hI.2.1
  obtain ⟨q, hq, hk⟩ := bts_ex _ h
  have hk0 := hk
  rw [← k1B_iff] at hk
  obtain ⟨m, hm, hb⟩ := cnt_ex 8 (show cntB (fun m => (bts (alvB T) 8).testBit m && (T 4 m).testBit q) 8 ≠ 0 by
    show whoC T (bts (alvB T) 8) q ≠ 0
    omega)
  simp only [Bool.and_eq_true] at hb
  rw [bts8_tb _ hm] at hb
  have hmc : m < T 0 6 := by
    apply Nat.lt_of_not_le
    intro hle
    rw [alv_out hle] at hb
    exact absurd hb.1 (by decide)
  have h1 := fk_ge (s := aloN T) hb.1 _ hmc
  have h2 : 0 < pcN (T 4 m &&& aloN T) := by
    refine cnt_pos (i := q) ?_ 8 (by omega)
    rw [Nat.testBit_and, hb.2, Bool.true_and]
    unfold aloN
    rw [bts_tb, hk0]
    simp [hq]
  omega
section IOR
variable {σ : nm_St} {o : Nat} {T : is_T}
theorem is_first (h : IslR σ o T) (hI : IslI T) {s : Nat} (hs : s < 256) : Is_firstWhoKnowsMost o (nI s) σ = some (nI (fkS T s 8).1 - nI 1, σ) := by
  have hc := hI.1
  unfold Is_firstWhoKnowsMost
  simp only [pl_0, pl_1, pl_2, pl_3, pl_4, pl_5, pl_6, pl_7, pl_8, pl_9, pl_10, pl_11, pl_12, pl_13, pl_14, pl_15, pl_16, pl_17, pl_18, pl_19, pl_20, pl_21, pl_30, pl_40, pl_50, pl_51, pl_60, pl_70, pl_71, pl_99, pl_100, pl_160, pl_240, pl_256, pl_300, pl_999, pl_1000, pl_1280, pl_9999, pl_10000]
  rw [show -nI 1 = nI (fkS T s 0).1 - nI 1 by show -nI 1 = nI 0 - nI 1; decide +kernel]
  refine lp_Q (fun n i (_ : Unit) => Is_firstWhoKnowsMost_l7 o _ n (nI s) (nI (fkS T s i).1 - nI 1) (nI (fkS T s i).2) (nI i) σ) 8 (fun i _ => True) (fun r => r = some (nI (fkS T s 8).1 - nI 1, σ)) ?_ ?_ 400 0 () (by omega) trivial (by omega)
  · intro n i a hi _ ih
    have hs2 := ih () trivial
    have hl := fk_le T s i
    have h4 := (hI.2.2.2.2 i hi).2.2.2.1
    have h6 := (hI.2.2.2.2 i hi).2.2.2.2.2
    have ha : T 4 i &&& s < 256 := Nat.lt_of_le_of_lt Nat.and_le_left h4
    have hp8 := pcN_le (T 4 i &&& s)
    cases e : (alvB T i && decide ((fkS T s i).2 < pcN (T 4 i &&& s))) with
    | true =>
      rw [fk_t e] at hs2
      simp only [Bool.and_eq_true, decide_eq_true_eq] at e
      have hm : i < T 0 6 ∧ T 6 i ≠ 3 := by
        have := e.1
        unfold alvB at this
        simpa using this
      simp only [pu_pred] at hs2
      simp (disch := omega) only [Is_firstWhoKnowsMost_l7, pl_0, pl_1, pl_2, pl_3, pl_4, pl_5, pl_6, pl_7, pl_8, pl_9, pl_10, pl_11, pl_12, pl_13, pl_14, pl_15, pl_16, pl_17, pl_18, pl_19, pl_20, pl_21, pl_30, pl_40, pl_50, pl_51, pl_60, pl_70, pl_71, pl_99, pl_100, pl_160, pl_240, pl_256, pl_300, pl_999, pl_1000, pl_1280, pl_9999, pl_10000, pu_neg, pu_nn, pu_le, pu_lt, pu_eq, pu_cl, pu_in, pu_g, pu_let, pu_bind, pu_m1, pu_add, pu_mul, Nat.not_lt_zero, if_false, if_true, Nat.zero_le, pu_d2, pu_d100, pu_em1, reduceIte, Nat.reduceEqDiff, Nat.reduceLT, Nat.reduceLeDiff, Nat.reduceAdd, Nat.reduceMul, Nat.reduceSub, not_true_eq_false, not_false_eq_true, and_true, true_and, and_false, false_and, or_true, true_or, or_false, false_or, Nat.lt_irrefl, Nat.le_refl, Nat.add_zero, Bool.false_eq_true, if_pos, if_neg, h.a 4, h.a 6, fa_and, ji_bc ha, is_isMaker_v h hI hm.1]
      exact hs2
    | false =>
      rw [fk_f e] at hs2
      by_cases hm : i < T 0 6
      · by_cases h3 : T 6 i = 3
        · simp (disch := omega) only [Is_firstWhoKnowsMost_l7, pl_0, pl_1, pl_2, pl_3, pl_4, pl_5, pl_6, pl_7, pl_8, pl_9, pl_10, pl_11, pl_12, pl_13, pl_14, pl_15, pl_16, pl_17, pl_18, pl_19, pl_20, pl_21, pl_30, pl_40, pl_50, pl_51, pl_60, pl_70, pl_71, pl_99, pl_100, pl_160, pl_240, pl_256, pl_300, pl_999, pl_1000, pl_1280, pl_9999, pl_10000, pu_neg, pu_nn, pu_le, pu_lt, pu_eq, pu_cl, pu_in, pu_g, pu_let, pu_bind, pu_m1, pu_add, pu_mul, Nat.not_lt_zero, if_false, if_true, Nat.zero_le, pu_d2, pu_d100, pu_em1, reduceIte, Nat.reduceEqDiff, Nat.reduceLT, Nat.reduceLeDiff, Nat.reduceAdd, Nat.reduceMul, Nat.reduceSub, not_true_eq_false, not_false_eq_true, and_true, true_and, and_false, false_and, or_true, true_or, or_false, false_or, Nat.lt_irrefl, Nat.le_refl, Nat.add_zero, Bool.false_eq_true, if_pos, if_neg, h.a 4, h.a 6, fa_and, ji_bc ha, is_isMaker_v h hI hm]
          exact hs2
        · have hle : ¬ (fkS T s i).2 < pcN (T 4 i &&& s) := by
            unfold alvB at e
            simpa [hm, h3] using e
          simp (disch := omega) only [Is_firstWhoKnowsMost_l7, pl_0, pl_1, pl_2, pl_3, pl_4, pl_5, pl_6, pl_7, pl_8, pl_9, pl_10, pl_11, pl_12, pl_13, pl_14, pl_15, pl_16, pl_17, pl_18, pl_19, pl_20, pl_21, pl_30, pl_40, pl_50, pl_51, pl_60, pl_70, pl_71, pl_99, pl_100, pl_160, pl_240, pl_256, pl_300, pl_999, pl_1000, pl_1280, pl_9999, pl_10000, pu_neg, pu_nn, pu_le, pu_lt, pu_eq, pu_cl, pu_in, pu_g, pu_let, pu_bind, pu_m1, pu_add, pu_mul, Nat.not_lt_zero, if_false, if_true, Nat.zero_le, pu_d2, pu_d100, pu_em1, reduceIte, Nat.reduceEqDiff, Nat.reduceLT, Nat.reduceLeDiff, Nat.reduceAdd, Nat.reduceMul, Nat.reduceSub, not_true_eq_false, not_false_eq_true, and_true, true_and, and_false, false_and, or_true, true_or, or_false, false_or, Nat.lt_irrefl, Nat.le_refl, Nat.add_zero, Bool.false_eq_true, if_pos, if_neg, h.a 4, h.a 6, fa_and, ji_bc ha, is_isMaker_v h hI hm]
          exact hs2
      · simp (disch := omega) only [Is_firstWhoKnowsMost_l7, pl_0, pl_1, pl_2, pl_3, pl_4, pl_5, pl_6, pl_7, pl_8, pl_9, pl_10, pl_11, pl_12, pl_13, pl_14, pl_15, pl_16, pl_17, pl_18, pl_19, pl_20, pl_21, pl_30, pl_40, pl_50, pl_51, pl_60, pl_70, pl_71, pl_99, pl_100, pl_160, pl_240, pl_256, pl_300, pl_999, pl_1000, pl_1280, pl_9999, pl_10000, pu_neg, pu_nn, pu_le, pu_lt, pu_eq, pu_cl, pu_in, pu_g, pu_let, pu_bind, pu_m1, pu_add, pu_mul, Nat.not_lt_zero, if_false, if_true, Nat.zero_le, pu_d2, pu_d100, pu_em1, reduceIte, Nat.reduceEqDiff, Nat.reduceLT, Nat.reduceLeDiff, Nat.reduceAdd, Nat.reduceMul, Nat.reduceSub, not_true_eq_false, not_false_eq_true, and_true, true_and, and_false, false_and, or_true, true_or, or_false, false_or, Nat.lt_irrefl, Nat.le_refl, Nat.add_zero, Bool.false_eq_true, if_pos, if_neg, h.a 4, fa_and, ji_bc ha, is_isMaker_n h hI (x := nI i) (Or.inr (nI_le (by omega) (by omega)))]
        exact hs2
  · intro n a _
    simp (disch := omega) only [Is_firstWhoKnowsMost_l7, pl_0, pl_1, pl_2, pl_3, pl_4, pl_5, pl_6, pl_7, pl_8, pl_9, pl_10, pl_11, pl_12, pl_13, pl_14, pl_15, pl_16, pl_17, pl_18, pl_19, pl_20, pl_21, pl_30, pl_40, pl_50, pl_51, pl_60, pl_70, pl_71, pl_99, pl_100, pl_160, pl_240, pl_256, pl_300, pl_999, pl_1000, pl_1280, pl_9999, pl_10000, pu_neg, pu_nn, pu_le, pu_lt, pu_eq, pu_cl, pu_in, pu_g, pu_let, pu_bind, pu_m1, pu_add, pu_mul, Nat.not_lt_zero, if_false, if_true, Nat.zero_le, pu_d2, pu_d100, pu_em1, reduceIte, Nat.reduceEqDiff, Nat.reduceLT, Nat.reduceLeDiff, Nat.reduceAdd, Nat.reduceMul, Nat.reduceSub, not_true_eq_false, not_false_eq_true, and_true, true_and, and_false, false_and, or_true, true_or, or_false, false_or, Nat.lt_irrefl, Nat.le_refl, Nat.add_zero, Bool.false_eq_true, if_pos, if_neg]
theorem md_aloneSet (h : MdR σ T) (hI : IslI T) (K : Int32 → Int32 → Int32 → nm_St → Option (Int32 × nm_St)) (x : Int32) : Md_alone_l26 K 400 x (nI 0) (nI (bts (alvB T) 8)) (nI 0) σ = K x (nI (aloN T)) (nI (bts (alvB T) 8)) σ := by
  have hc := hI.1
  have hp := hI.2.1
  have hb := bts8 (alvB T)
  refine lp_Q (fun n i (_ : Unit) => Md_alone_l26 K n x (nI (bts (k1B T) i)) (nI (bts (alvB T) 8)) (nI i) σ) (T 0 7) (fun i _ => True) (fun r => r = K x (nI (aloN T)) (nI (bts (alvB T) 8)) σ) ?_ ?_ 400 0 () (by omega) trivial (by omega)
  · intro n i a hi _ ih
    have hs := ih () trivial
    have hl := bts_lt (k1B T) i
    have hw := whoC_le T (bts (alvB T) 8) i
    have ho := md_owners h hI (s := bts (alvB T) 8) (q := i) (by omega) (by omega)
    rw [ownC_who T hc (f := alvB T) (fun i hi => alv_out hi)] at ho
    cases e : k1B T i with
    | true =>
      rw [bts_t e] at hs
      have e1 : whoC T (bts (alvB T) 8) i = 1 := by rw [k1B_iff]; exact e
      simp (disch := omega) only [Md_alone_l26, pl_0, pl_1, pl_2, pl_3, pl_4, pl_5, pl_6, pl_7, pl_8, pl_9, pl_10, pl_11, pl_12, pl_13, pl_14, pl_15, pl_16, pl_17, pl_18, pl_19, pl_20, pl_21, pl_30, pl_40, pl_50, pl_51, pl_60, pl_70, pl_71, pl_99, pl_100, pl_160, pl_240, pl_256, pl_300, pl_999, pl_1000, pl_1280, pl_9999, pl_10000, pu_neg, pu_nn, pu_le, pu_lt, pu_eq, pu_cl, pu_in, pu_g, pu_let, pu_bind, pu_m1, pu_add, pu_mul, Nat.not_lt_zero, if_false, if_true, Nat.zero_le, pu_d2, pu_d100, pu_em1, reduceIte, Nat.reduceEqDiff, Nat.reduceLT, Nat.reduceLeDiff, Nat.reduceAdd, Nat.reduceMul, Nat.reduceSub, not_true_eq_false, not_false_eq_true, and_true, true_and, and_false, false_and, or_true, true_or, or_false, false_or, Nat.lt_irrefl, Nat.le_refl, Nat.add_zero, Bool.false_eq_true, if_pos, if_neg, h.p, ho, e1, pu_shl, fa_or, pu_orbit hl]
      exact hs
    | false =>
      rw [bts_f e] at hs
      have e1 : ¬ whoC T (bts (alvB T) 8) i = 1 := by rw [k1B_iff, e]; decide
      simp (disch := omega) only [Md_alone_l26, pl_0, pl_1, pl_2, pl_3, pl_4, pl_5, pl_6, pl_7, pl_8, pl_9, pl_10, pl_11, pl_12, pl_13, pl_14, pl_15, pl_16, pl_17, pl_18, pl_19, pl_20, pl_21, pl_30, pl_40, pl_50, pl_51, pl_60, pl_70, pl_71, pl_99, pl_100, pl_160, pl_240, pl_256, pl_300, pl_999, pl_1000, pl_1280, pl_9999, pl_10000, pu_neg, pu_nn, pu_le, pu_lt, pu_eq, pu_cl, pu_in, pu_g, pu_let, pu_bind, pu_m1, pu_add, pu_mul, Nat.not_lt_zero, if_false, if_true, Nat.zero_le, pu_d2, pu_d100, pu_em1, reduceIte, Nat.reduceEqDiff, Nat.reduceLT, Nat.reduceLeDiff, Nat.reduceAdd, Nat.reduceMul, Nat.reduceSub, not_true_eq_false, not_false_eq_true, and_true, true_and, and_false, false_and, or_true, true_or, or_false, false_or, Nat.lt_irrefl, Nat.le_refl, Nat.add_zero, Bool.false_eq_true, if_pos, if_neg, h.p, ho]
      exact hs
  · intro n a _
    simp (disch := omega) only [Md_alone_l26, pl_0, pl_1, pl_2, pl_3, pl_4, pl_5, pl_6, pl_7, pl_8, pl_9, pl_10, pl_11, pl_12, pl_13, pl_14, pl_15, pl_16, pl_17, pl_18, pl_19, pl_20, pl_21, pl_30, pl_40, pl_50, pl_51, pl_60, pl_70, pl_71, pl_99, pl_100, pl_160, pl_240, pl_256, pl_300, pl_999, pl_1000, pl_1280, pl_9999, pl_10000, pu_neg, pu_nn, pu_le, pu_lt, pu_eq, pu_cl, pu_in, pu_g, pu_let, pu_bind, pu_m1, pu_add, pu_mul, Nat.not_lt_zero, if_false, if_true, Nat.zero_le, pu_d2, pu_d100, pu_em1, reduceIte, Nat.reduceEqDiff, Nat.reduceLT, Nat.reduceLeDiff, Nat.reduceAdd, Nat.reduceMul, Nat.reduceSub, not_true_eq_false, not_false_eq_true, and_true, true_and, and_false, false_and, or_true, true_or, or_false, false_or, Nat.lt_irrefl, Nat.le_refl, Nat.add_zero, Bool.false_eq_true, if_pos, if_neg, h.p]
    rfl
theorem md_key (h : MdR σ T) (hI : IslI T) (hz : aloN T ≠ 0) : Md_alone_l71 (fun (e25 : Int32) (s24 : nm_St) => some (e25, s24)) 400 (nI (aloN T)) (nI (bts (alvB T) 8)) (-nI 1) (nI 0) σ = some (nI (fkS T (aloN T) 8).1 - nI 1, σ) := by
  have hc := hI.1
  have hb := bts8 (alvB T)
  have hpos := alo_pos hI hz
  have hlt := alo_lt hI
  rw [fk_to rfl 8 hc]
  generalize hs : aloN T = s at *
  refine lp_Q (fun n i (x : Int32) => Md_alone_l71 _ n (nI s) (nI (bts (alvB T) 8)) x (nI i) σ) (T 0 6) (fun i x => ((fkS T s i).2 = 0 ∧ (x = -nI 1 ∨ ∃ j, j < i ∧ x = nI j ∧ pcN (T 4 j &&& s) = 0)) ∨ ∃ j, j < i ∧ x = nI j ∧ (fkS T s i).1 = j + 1 ∧ pcN (T 4 j &&& s) = (fkS T s i).2 ∧ 0 < (fkS T s i).2) (fun r => r = some (nI (fkS T s (T 0 6)).1 - nI 1, σ)) ?_ ?_ 400 0 (-nI 1) (by omega) (Or.inl ⟨rfl, Or.inl rfl⟩) (by omega)
  · intro n i x hi hp ih
    have hk := md_has (σ := σ) (a := bts (alvB T) 8) (m := i) (by omega) (by omega)
    rw [bts8_tb _ (by omega)] at hk
    have band : ∀ j, j < 8 → T 4 j &&& s < 256 := fun j hj => Nat.lt_of_le_of_lt Nat.and_le_left (hI.2.2.2.2 j hj).2.2.2.1
    have bi := band i (by omega)
    have pi := pcN_le (T 4 i &&& s)
    cases e1 : alvB T i with
    | false =>
      rw [e1] at hk
      have e : (alvB T i && decide ((fkS T s i).2 < pcN (T 4 i &&& s))) = false := by rw [e1]; rfl
      have := ih x (by
        rw [fk_f e]
        rcases hp with ⟨a1, a2 | ⟨j, a2, a3⟩⟩ | ⟨j, a2, a3⟩
        · exact Or.inl ⟨a1, Or.inl a2⟩
        · exact Or.inl ⟨a1, Or.inr ⟨j, by omega, a3⟩⟩
        · exact Or.inr ⟨j, by omega, a3⟩)
      simp (disch := omega) only [Md_alone_l71, pl_0, pl_1, pl_2, pl_3, pl_4, pl_5, pl_6, pl_7, pl_8, pl_9, pl_10, pl_11, pl_12, pl_13, pl_14, pl_15, pl_16, pl_17, pl_18, pl_19, pl_20, pl_21, pl_30, pl_40, pl_50, pl_51, pl_60, pl_70, pl_71, pl_99, pl_100, pl_160, pl_240, pl_256, pl_300, pl_999, pl_1000, pl_1280, pl_9999, pl_10000, pu_neg, pu_nn, pu_le, pu_lt, pu_eq, pu_cl, pu_in, pu_g, pu_let, pu_bind, pu_m1, pu_add, pu_mul, Nat.not_lt_zero, if_false, if_true, Nat.zero_le, pu_d2, pu_d100, pu_em1, reduceIte, Nat.reduceEqDiff, Nat.reduceLT, Nat.reduceLeDiff, Nat.reduceAdd, Nat.reduceMul, Nat.reduceSub, not_true_eq_false, not_false_eq_true, and_true, true_and, and_false, false_and, or_true, true_or, or_false, false_or, Nat.lt_irrefl, Nat.le_refl, Nat.add_zero, Bool.false_eq_true, if_pos, if_neg, h.c, hk]
      exact this
    | true =>
      rw [e1] at hk
      by_cases e2 : (fkS T s i).2 < pcN (T 4 i &&& s)
      · have e : (alvB T i && decide ((fkS T s i).2 < pcN (T 4 i &&& s))) = true := by simp [e1, e2]
        have hs2 := ih (nI i) (Or.inr ⟨i, by omega, rfl, by rw [fk_t e], by rw [fk_t e], by rw [fk_t e]; show 0 < pcN _; omega⟩)
        rcases hp with ⟨a1, rfl | ⟨j, a2, rfl, a3⟩⟩ | ⟨j, a2, rfl, a3, a4, a5⟩
        · simp (disch := omega) only [Md_alone_l71, pl_0, pl_1, pl_2, pl_3, pl_4, pl_5, pl_6, pl_7, pl_8, pl_9, pl_10, pl_11, pl_12, pl_13, pl_14, pl_15, pl_16, pl_17, pl_18, pl_19, pl_20, pl_21, pl_30, pl_40, pl_50, pl_51, pl_60, pl_70, pl_71, pl_99, pl_100, pl_160, pl_240, pl_256, pl_300, pl_999, pl_1000, pl_1280, pl_9999, pl_10000, pu_neg, pu_nn, pu_le, pu_lt, pu_eq, pu_cl, pu_in, pu_g, pu_let, pu_bind, pu_m1, pu_add, pu_mul, Nat.not_lt_zero, if_false, if_true, Nat.zero_le, pu_d2, pu_d100, pu_em1, reduceIte, Nat.reduceEqDiff, Nat.reduceLT, Nat.reduceLeDiff, Nat.reduceAdd, Nat.reduceMul, Nat.reduceSub, not_true_eq_false, not_false_eq_true, and_true, true_and, and_false, false_and, or_true, true_or, or_false, false_or, Nat.lt_irrefl, Nat.le_refl, Nat.add_zero, Bool.false_eq_true, if_pos, if_neg, h.c, hk]
          exact hs2
        · have bj := band j (by omega)
          simp (disch := omega) only [Md_alone_l71, pl_0, pl_1, pl_2, pl_3, pl_4, pl_5, pl_6, pl_7, pl_8, pl_9, pl_10, pl_11, pl_12, pl_13, pl_14, pl_15, pl_16, pl_17, pl_18, pl_19, pl_20, pl_21, pl_30, pl_40, pl_50, pl_51, pl_60, pl_70, pl_71, pl_99, pl_100, pl_160, pl_240, pl_256, pl_300, pl_999, pl_1000, pl_1280, pl_9999, pl_10000, pu_neg, pu_nn, pu_le, pu_lt, pu_eq, pu_cl, pu_in, pu_g, pu_let, pu_bind, pu_m1, pu_add, pu_mul, Nat.not_lt_zero, if_false, if_true, Nat.zero_le, pu_d2, pu_d100, pu_em1, reduceIte, Nat.reduceEqDiff, Nat.reduceLT, Nat.reduceLeDiff, Nat.reduceAdd, Nat.reduceMul, Nat.reduceSub, not_true_eq_false, not_false_eq_true, and_true, true_and, and_false, false_and, or_true, true_or, or_false, false_or, Nat.lt_irrefl, Nat.le_refl, Nat.add_zero, Bool.false_eq_true, if_pos, if_neg, h.c, hk, h.a4, fa_and, md_ones]
          exact hs2
        · have bj := band j (by omega)
          have pj := pcN_le (T 4 j &&& s)
          simp (disch := omega) only [Md_alone_l71, pl_0, pl_1, pl_2, pl_3, pl_4, pl_5, pl_6, pl_7, pl_8, pl_9, pl_10, pl_11, pl_12, pl_13, pl_14, pl_15, pl_16, pl_17, pl_18, pl_19, pl_20, pl_21, pl_30, pl_40, pl_50, pl_51, pl_60, pl_70, pl_71, pl_99, pl_100, pl_160, pl_240, pl_256, pl_300, pl_999, pl_1000, pl_1280, pl_9999, pl_10000, pu_neg, pu_nn, pu_le, pu_lt, pu_eq, pu_cl, pu_in, pu_g, pu_let, pu_bind, pu_m1, pu_add, pu_mul, Nat.not_lt_zero, if_false, if_true, Nat.zero_le, pu_d2, pu_d100, pu_em1, reduceIte, Nat.reduceEqDiff, Nat.reduceLT, Nat.reduceLeDiff, Nat.reduceAdd, Nat.reduceMul, Nat.reduceSub, not_true_eq_false, not_false_eq_true, and_true, true_and, and_false, false_and, or_true, true_or, or_false, false_or, Nat.lt_irrefl, Nat.le_refl, Nat.add_zero, Bool.false_eq_true, if_pos, if_neg, h.c, hk, h.a4, fa_and, md_ones]
          exact hs2
      · have e : (alvB T i && decide ((fkS T s i).2 < pcN (T 4 i &&& s))) = false := by simp [e2]
        rcases hp with ⟨a1, rfl | ⟨j, a2, rfl, a3⟩⟩ | ⟨j, a2, rfl, a3, a4, a5⟩
        · have hs2 := ih (nI i) (by
            rw [fk_f e]
            exact Or.inl ⟨a1, Or.inr ⟨i, by omega, rfl, by omega⟩⟩)
          simp (disch := omega) only [Md_alone_l71, pl_0, pl_1, pl_2, pl_3, pl_4, pl_5, pl_6, pl_7, pl_8, pl_9, pl_10, pl_11, pl_12, pl_13, pl_14, pl_15, pl_16, pl_17, pl_18, pl_19, pl_20, pl_21, pl_30, pl_40, pl_50, pl_51, pl_60, pl_70, pl_71, pl_99, pl_100, pl_160, pl_240, pl_256, pl_300, pl_999, pl_1000, pl_1280, pl_9999, pl_10000, pu_neg, pu_nn, pu_le, pu_lt, pu_eq, pu_cl, pu_in, pu_g, pu_let, pu_bind, pu_m1, pu_add, pu_mul, Nat.not_lt_zero, if_false, if_true, Nat.zero_le, pu_d2, pu_d100, pu_em1, reduceIte, Nat.reduceEqDiff, Nat.reduceLT, Nat.reduceLeDiff, Nat.reduceAdd, Nat.reduceMul, Nat.reduceSub, not_true_eq_false, not_false_eq_true, and_true, true_and, and_false, false_and, or_true, true_or, or_false, false_or, Nat.lt_irrefl, Nat.le_refl, Nat.add_zero, Bool.false_eq_true, if_pos, if_neg, h.c, hk]
          exact hs2
        · have hs2 := ih (nI j) (by
            rw [fk_f e]
            exact Or.inl ⟨a1, Or.inr ⟨j, by omega, rfl, a3⟩⟩)
          have bj := band j (by omega)
          simp (disch := omega) only [Md_alone_l71, pl_0, pl_1, pl_2, pl_3, pl_4, pl_5, pl_6, pl_7, pl_8, pl_9, pl_10, pl_11, pl_12, pl_13, pl_14, pl_15, pl_16, pl_17, pl_18, pl_19, pl_20, pl_21, pl_30, pl_40, pl_50, pl_51, pl_60, pl_70, pl_71, pl_99, pl_100, pl_160, pl_240, pl_256, pl_300, pl_999, pl_1000, pl_1280, pl_9999, pl_10000, pu_neg, pu_nn, pu_le, pu_lt, pu_eq, pu_cl, pu_in, pu_g, pu_let, pu_bind, pu_m1, pu_add, pu_mul, Nat.not_lt_zero, if_false, if_true, Nat.zero_le, pu_d2, pu_d100, pu_em1, reduceIte, Nat.reduceEqDiff, Nat.reduceLT, Nat.reduceLeDiff, Nat.reduceAdd, Nat.reduceMul, Nat.reduceSub, not_true_eq_false, not_false_eq_true, and_true, true_and, and_false, false_and, or_true, true_or, or_false, false_or, Nat.lt_irrefl, Nat.le_refl, Nat.add_zero, Bool.false_eq_true, if_pos, if_neg, h.c, hk, h.a4, fa_and, md_ones]
          exact hs2
        · have hs2 := ih (nI j) (by
            rw [fk_f e]
            exact Or.inr ⟨j, by omega, rfl, a3, a4, a5⟩)
          have bj := band j (by omega)
          have pj := pcN_le (T 4 j &&& s)
          simp (disch := omega) only [Md_alone_l71, pl_0, pl_1, pl_2, pl_3, pl_4, pl_5, pl_6, pl_7, pl_8, pl_9, pl_10, pl_11, pl_12, pl_13, pl_14, pl_15, pl_16, pl_17, pl_18, pl_19, pl_20, pl_21, pl_30, pl_40, pl_50, pl_51, pl_60, pl_70, pl_71, pl_99, pl_100, pl_160, pl_240, pl_256, pl_300, pl_999, pl_1000, pl_1280, pl_9999, pl_10000, pu_neg, pu_nn, pu_le, pu_lt, pu_eq, pu_cl, pu_in, pu_g, pu_let, pu_bind, pu_m1, pu_add, pu_mul, Nat.not_lt_zero, if_false, if_true, Nat.zero_le, pu_d2, pu_d100, pu_em1, reduceIte, Nat.reduceEqDiff, Nat.reduceLT, Nat.reduceLeDiff, Nat.reduceAdd, Nat.reduceMul, Nat.reduceSub, not_true_eq_false, not_false_eq_true, and_true, true_and, and_false, false_and, or_true, true_or, or_false, false_or, Nat.lt_irrefl, Nat.le_refl, Nat.add_zero, Bool.false_eq_true, if_pos, if_neg, h.c, hk, h.a4, fa_and, md_ones]
          exact hs2
  · intro n x hp
    simp (disch := omega) only [Md_alone_l71, pl_0, pl_1, pl_2, pl_3, pl_4, pl_5, pl_6, pl_7, pl_8, pl_9, pl_10, pl_11, pl_12, pl_13, pl_14, pl_15, pl_16, pl_17, pl_18, pl_19, pl_20, pl_21, pl_30, pl_40, pl_50, pl_51, pl_60, pl_70, pl_71, pl_99, pl_100, pl_160, pl_240, pl_256, pl_300, pl_999, pl_1000, pl_1280, pl_9999, pl_10000, pu_neg, pu_nn, pu_le, pu_lt, pu_eq, pu_cl, pu_in, pu_g, pu_let, pu_bind, pu_m1, pu_add, pu_mul, Nat.not_lt_zero, if_false, if_true, Nat.zero_le, pu_d2, pu_d100, pu_em1, reduceIte, Nat.reduceEqDiff, Nat.reduceLT, Nat.reduceLeDiff, Nat.reduceAdd, Nat.reduceMul, Nat.reduceSub, not_true_eq_false, not_false_eq_true, and_true, true_and, and_false, false_and, or_true, true_or, or_false, false_or, Nat.lt_irrefl, Nat.le_refl, Nat.add_zero, Bool.false_eq_true, if_pos, if_neg, h.c]
    rcases hp with ⟨a1, -⟩ | ⟨j, a2, rfl, a3, a4⟩
    · omega
    · rw [a3, pu_pred]
end IOR
/-! lessons -/
def lesA (T : is_T) : Nat → Bool
  | 0 => true
  | n + 1 => lesA T n && decide (whoC T (bts (atB T 0) 8) n ≠ 0)
def lesN (T : is_T) (k : Nat) : Nat → Nat
  | 0 => 0
  | n + 1 => lesN T k n + (k + 1 - whoC T (bts (atB T 0) 8) n)
theorem lesA_f {T : is_T} {i : Nat} (h : whoC T (bts (atB T 0) 8) i = 0) : ∀ n, i < n → lesA T n = false := by
  intro n
  induction n with
  | zero => intro h; omega
  | succ n ih =>
    intro hi
    show (lesA T n && decide (whoC T (bts (atB T 0) 8) n ≠ 0)) = false
    by_cases z : i = n
    · subst z; simp [h]
    · rw [ih (by omega)]; rfl
theorem lesN_le (T : is_T) (k : Nat) : ∀ n, lesN T k n ≤ n * (k + 1) := by
  intro n
  induction n with
  | zero => exact Nat.zero_le _
  | succ n ih =>
    show lesN T k n + _ ≤ _
    rw [Nat.succ_mul]
    omega
def lesR (T : is_T) (k : Nat) : Int32 := if pcN (bts (atB T 0) 8) < k + 1 then -nI 1 else if lesA T (T 0 7) then nI (lesN T k (T 0 7)) else -nI 1
section IOS
variable {σ : nm_St} {o : Nat} {T : is_T}
theorem is_lessonsFor (h : IslR σ o T) (hI : IslI T) {k : Nat} (hk : k ≤ 8) : Is_lessonsFor o (nI (k + 1)) σ = some (lesR T k, σ) := by
  have hc := hI.1
  have hp := hI.2.1
  have hb := bts8 (atB T 0)
  have hpc := pcN_le (bts (atB T 0) 8)
  unfold Is_lessonsFor
  simp (disch := omega) only [pl_0, pl_1, pl_2, pl_3, pl_4, pl_5, pl_6, pl_7, pl_8, pl_9, pl_10, pl_11, pl_12, pl_13, pl_14, pl_15, pl_16, pl_17, pl_18, pl_19, pl_20, pl_21, pl_30, pl_40, pl_50, pl_51, pl_60, pl_70, pl_71, pl_99, pl_100, pl_160, pl_240, pl_256, pl_300, pl_999, pl_1000, pl_1280, pl_9999, pl_10000, pu_neg, pu_nn, pu_le, pu_lt, pu_eq, pu_cl, pu_in, pu_g, pu_let, pu_bind, pu_m1, pu_add, pu_mul, Nat.not_lt_zero, if_false, if_true, Nat.zero_le, pu_d2, pu_d100, pu_em1, reduceIte, Nat.reduceEqDiff, Nat.reduceLT, Nat.reduceLeDiff, Nat.reduceAdd, Nat.reduceMul, Nat.reduceSub, not_true_eq_false, not_false_eq_true, and_true, true_and, and_false, false_and, or_true, true_or, or_false, false_or, Nat.lt_irrefl, Nat.le_refl, Nat.add_zero, Bool.false_eq_true, is_thoseAt h hI (show 0 ≤ 3 by omega), ji_bc hb]
  by_cases z : k + 1 ≤ pcN (bts (atB T 0) 8)
  · rw [if_pos z]
    have hR : lesR T k = if lesA T (T 0 7) then nI (lesN T k (T 0 7)) else -nI 1 := if_neg (by omega)
    rw [hR]
    refine lp_Q (fun n i (_ : Unit) => Is_lessonsFor_l21 o _ n (nI (k + 1)) (nI (bts (atB T 0) 8)) (nI (lesN T k i)) (nI i) σ) (T 0 7) (fun i _ => lesA T i = true) (fun r => r = some (if lesA T (T 0 7) then nI (lesN T k (T 0 7)) else -nI 1, σ)) ?_ ?_ 400 0 () (by omega) rfl (by omega)
    · intro n i a hi hA ih
      have hw := whoC_le T (bts (atB T 0) 8) i
      by_cases e : whoC T (bts (atB T 0) 8) i = 0
      · rw [lesA_f e _ hi]
        simp (disch := omega) only [Is_lessonsFor_l21, pl_0, pl_1, pl_2, pl_3, pl_4, pl_5, pl_6, pl_7, pl_8, pl_9, pl_10, pl_11, pl_12, pl_13, pl_14, pl_15, pl_16, pl_17, pl_18, pl_19, pl_20, pl_21, pl_30, pl_40, pl_50, pl_51, pl_60, pl_70, pl_71, pl_99, pl_100, pl_160, pl_240, pl_256, pl_300, pl_999, pl_1000, pl_1280, pl_9999, pl_10000, pu_neg, pu_nn, pu_le, pu_lt, pu_eq, pu_cl, pu_in, pu_g, pu_let, pu_bind, pu_m1, pu_add, pu_mul, Nat.not_lt_zero, if_false, if_true, Nat.zero_le, pu_d2, pu_d100, pu_em1, reduceIte, Nat.reduceEqDiff, Nat.reduceLT, Nat.reduceLeDiff, Nat.reduceAdd, Nat.reduceMul, Nat.reduceSub, not_true_eq_false, not_false_eq_true, and_true, true_and, and_false, false_and, or_true, true_or, or_false, false_or, Nat.lt_irrefl, Nat.le_refl, Nat.add_zero, Bool.false_eq_true, if_pos, if_neg, h.p, is_whoKnow h hI, e]
      · have hs := ih () (by
          show (lesA T i && decide (whoC T (bts (atB T 0) 8) i ≠ 0)) = true
          simp [hA, e])
        rw [show lesN T k (i + 1) = lesN T k i + (k + 1 - whoC T (bts (atB T 0) 8) i) from rfl] at hs
        simp (disch := omega) only [Is_lessonsFor_l21, pl_0, pl_1, pl_2, pl_3, pl_4, pl_5, pl_6, pl_7, pl_8, pl_9, pl_10, pl_11, pl_12, pl_13, pl_14, pl_15, pl_16, pl_17, pl_18, pl_19, pl_20, pl_21, pl_30, pl_40, pl_50, pl_51, pl_60, pl_70, pl_71, pl_99, pl_100, pl_160, pl_240, pl_256, pl_300, pl_999, pl_1000, pl_1280, pl_9999, pl_10000, pu_neg, pu_nn, pu_le, pu_lt, pu_eq, pu_cl, pu_in, pu_g, pu_let, pu_bind, pu_m1, pu_add, pu_mul, Nat.not_lt_zero, if_false, if_true, Nat.zero_le, pu_d2, pu_d100, pu_em1, reduceIte, Nat.reduceEqDiff, Nat.reduceLT, Nat.reduceLeDiff, Nat.reduceAdd, Nat.reduceMul, Nat.reduceSub, not_true_eq_false, not_false_eq_true, and_true, true_and, and_false, false_and, or_true, true_or, or_false, false_or, Nat.lt_irrefl, Nat.le_refl, Nat.add_zero, Bool.false_eq_true, h.p, is_whoKnow h hI, pu_max]
        rw [if_neg (by omega), if_neg e]
        exact hs
    · intro n a hA
      simp (disch := omega) only [Is_lessonsFor_l21, pl_0, pl_1, pl_2, pl_3, pl_4, pl_5, pl_6, pl_7, pl_8, pl_9, pl_10, pl_11, pl_12, pl_13, pl_14, pl_15, pl_16, pl_17, pl_18, pl_19, pl_20, pl_21, pl_30, pl_40, pl_50, pl_51, pl_60, pl_70, pl_71, pl_99, pl_100, pl_160, pl_240, pl_256, pl_300, pl_999, pl_1000, pl_1280, pl_9999, pl_10000, pu_neg, pu_nn, pu_le, pu_lt, pu_eq, pu_cl, pu_in, pu_g, pu_let, pu_bind, pu_m1, pu_add, pu_mul, Nat.not_lt_zero, if_false, if_true, Nat.zero_le, pu_d2, pu_d100, pu_em1, reduceIte, Nat.reduceEqDiff, Nat.reduceLT, Nat.reduceLeDiff, Nat.reduceAdd, Nat.reduceMul, Nat.reduceSub, not_true_eq_false, not_false_eq_true, and_true, true_and, and_false, false_and, or_true, true_or, or_false, false_or, Nat.lt_irrefl, Nat.le_refl, Nat.add_zero, Bool.false_eq_true, if_pos, if_neg, h.p, hA]
  · rw [if_neg z]
    unfold lesR
    rw [if_pos (by omega)]
theorem md_lessons (h : MdR σ T) (hI : IslI T) {k : Nat} (hk : k ≤ 8) : Md_lessons (nI k) σ = some (lesR T k, σ) := by
  have hc := hI.1
  have hp := hI.2.1
  have hb := bts8 (atB T 0)
  have hpc := pcN_le (bts (atB T 0) 8)
  unfold Md_lessons
  simp (disch := omega) only [pl_0, pl_1, pl_2, pl_3, pl_4, pl_5, pl_6, pl_7, pl_8, pl_9, pl_10, pl_11, pl_12, pl_13, pl_14, pl_15, pl_16, pl_17, pl_18, pl_19, pl_20, pl_21, pl_30, pl_40, pl_50, pl_51, pl_60, pl_70, pl_71, pl_99, pl_100, pl_160, pl_240, pl_256, pl_300, pl_999, pl_1000, pl_1280, pl_9999, pl_10000, pu_neg, pu_nn, pu_le, pu_lt, pu_eq, pu_cl, pu_in, pu_g, pu_let, pu_bind, pu_m1, pu_add, pu_mul, Nat.not_lt_zero, if_false, if_true, Nat.zero_le, pu_d2, pu_d100, pu_em1, reduceIte, Nat.reduceEqDiff, Nat.reduceLT, Nat.reduceLeDiff, Nat.reduceAdd, Nat.reduceMul, Nat.reduceSub, not_true_eq_false, not_false_eq_true, and_true, true_and, and_false, false_and, or_true, true_or, or_false, false_or, Nat.lt_irrefl, Nat.le_refl, Nat.add_zero, Bool.false_eq_true, md_those h hI (show 0 ≤ 3 by omega), md_ones]
  rw [if_pos (by omega)]
  by_cases z : k + 1 ≤ pcN (bts (atB T 0) 8)
  · rw [if_pos z]
    have hR : lesR T k = if lesA T (T 0 7) then nI (lesN T k (T 0 7)) else -nI 1 := if_neg (by omega)
    rw [hR]
    refine lp_Q (fun n i (_ : Unit) => Md_lessons_l41 _ n (nI k) (nI (bts (atB T 0) 8)) (nI (lesN T k i)) (nI i) σ) (T 0 7) (fun i _ => lesA T i = true) (fun r => r = some (if lesA T (T 0 7) then nI (lesN T k (T 0 7)) else -nI 1, σ)) ?_ ?_ 400 0 () (by omega) rfl (by omega)
    · intro n i a hi hA ih
      have hw := whoC_le T (bts (atB T 0) 8) i
      have ho := md_owners h hI (s := bts (atB T 0) 8) (q := i) (by omega) (by omega)
      rw [ownC_who T hc (f := atB T 0) (fun i hi => at_out hi)] at ho
      by_cases e : whoC T (bts (atB T 0) 8) i = 0
      · rw [lesA_f e _ hi]
        simp (disch := omega) only [Md_lessons_l41, pl_0, pl_1, pl_2, pl_3, pl_4, pl_5, pl_6, pl_7, pl_8, pl_9, pl_10, pl_11, pl_12, pl_13, pl_14, pl_15, pl_16, pl_17, pl_18, pl_19, pl_20, pl_21, pl_30, pl_40, pl_50, pl_51, pl_60, pl_70, pl_71, pl_99, pl_100, pl_160, pl_240, pl_256, pl_300, pl_999, pl_1000, pl_1280, pl_9999, pl_10000, pu_neg, pu_nn, pu_le, pu_lt, pu_eq, pu_cl, pu_in, pu_g, pu_let, pu_bind, pu_m1, pu_add, pu_mul, Nat.not_lt_zero, if_false, if_true, Nat.zero_le, pu_d2, pu_d100, pu_em1, reduceIte, Nat.reduceEqDiff, Nat.reduceLT, Nat.reduceLeDiff, Nat.reduceAdd, Nat.reduceMul, Nat.reduceSub, not_true_eq_false, not_false_eq_true, and_true, true_and, and_false, false_and, or_true, true_or, or_false, false_or, Nat.lt_irrefl, Nat.le_refl, Nat.add_zero, Bool.false_eq_true, if_pos, if_neg, h.p, ho, e]
      · have hs := ih () (by
          show (lesA T i && decide (whoC T (bts (atB T 0) 8) i ≠ 0)) = true
          simp [hA, e])
        rw [show lesN T k (i + 1) = lesN T k i + (k + 1 - whoC T (bts (atB T 0) 8) i) from rfl] at hs
        simp (disch := omega) only [Md_lessons_l41, pl_0, pl_1, pl_2, pl_3, pl_4, pl_5, pl_6, pl_7, pl_8, pl_9, pl_10, pl_11, pl_12, pl_13, pl_14, pl_15, pl_16, pl_17, pl_18, pl_19, pl_20, pl_21, pl_30, pl_40, pl_50, pl_51, pl_60, pl_70, pl_71, pl_99, pl_100, pl_160, pl_240, pl_256, pl_300, pl_999, pl_1000, pl_1280, pl_9999, pl_10000, pu_neg, pu_nn, pu_le, pu_lt, pu_eq, pu_cl, pu_in, pu_g, pu_let, pu_bind, pu_m1, pu_add, pu_mul, Nat.not_lt_zero, if_false, if_true, Nat.zero_le, pu_d2, pu_d100, pu_em1, reduceIte, Nat.reduceEqDiff, Nat.reduceLT, Nat.reduceLeDiff, Nat.reduceAdd, Nat.reduceMul, Nat.reduceSub, not_true_eq_false, not_false_eq_true, and_true, true_and, and_false, false_and, or_true, true_or, or_false, false_or, Nat.lt_irrefl, Nat.le_refl, Nat.add_zero, Bool.false_eq_true, h.p, ho]
        rw [if_neg (by omega), if_neg e]
        by_cases e2 : whoC T (bts (atB T 0) 8) i ≤ k
        · rw [if_pos e2, pk_sub (by omega), pu_add]
          exact hs
        · rw [if_neg e2]
          rw [show k + 1 - whoC T (bts (atB T 0) 8) i = 0 by omega] at hs
          exact hs
    · intro n a hA
      simp (disch := omega) only [Md_lessons_l41, pl_0, pl_1, pl_2, pl_3, pl_4, pl_5, pl_6, pl_7, pl_8, pl_9, pl_10, pl_11, pl_12, pl_13, pl_14, pl_15, pl_16, pl_17, pl_18, pl_19, pl_20, pl_21, pl_30, pl_40, pl_50, pl_51, pl_60, pl_70, pl_71, pl_99, pl_100, pl_160, pl_240, pl_256, pl_300, pl_999, pl_1000, pl_1280, pl_9999, pl_10000, pu_neg, pu_nn, pu_le, pu_lt, pu_eq, pu_cl, pu_in, pu_g, pu_let, pu_bind, pu_m1, pu_add, pu_mul, Nat.not_lt_zero, if_false, if_true, Nat.zero_le, pu_d2, pu_d100, pu_em1, reduceIte, Nat.reduceEqDiff, Nat.reduceLT, Nat.reduceLeDiff, Nat.reduceAdd, Nat.reduceMul, Nat.reduceSub, not_true_eq_false, not_false_eq_true, and_true, true_and, and_false, false_and, or_true, true_or, or_false, false_or, Nat.lt_irrefl, Nat.le_refl, Nat.add_zero, Bool.false_eq_true, if_pos, if_neg, h.p, hA]
  · rw [if_neg z]
    unfold lesR
    rw [if_pos (by omega)]
theorem md_offer (h : MdR σ T) (hI : IslI T) {b : Nat} (hb : b ≤ 999) : Md_offer (nI b) σ = some (nI (bts (goB T (nI b)) 8), σ) := by
  have hc := hI.1
  unfold Md_offer
  simp (disch := omega) only [pl_0, pl_1, pl_2, pl_3, pl_4, pl_5, pl_6, pl_7, pl_8, pl_9, pl_10, pl_11, pl_12, pl_13, pl_14, pl_15, pl_16, pl_17, pl_18, pl_19, pl_20, pl_21, pl_30, pl_40, pl_50, pl_51, pl_60, pl_70, pl_71, pl_99, pl_100, pl_160, pl_240, pl_256, pl_300, pl_999, pl_1000, pl_1280, pl_9999, pl_10000, pu_neg, pu_nn, pu_le, pu_lt, pu_eq, pu_cl, pu_in, pu_g, pu_let, pu_bind, pu_m1, pu_add, pu_mul, Nat.not_lt_zero, if_false, if_true, Nat.zero_le, pu_d2, pu_d100, pu_em1, reduceIte, Nat.reduceEqDiff, Nat.reduceLT, Nat.reduceLeDiff, Nat.reduceAdd, Nat.reduceMul, Nat.reduceSub, not_true_eq_false, not_false_eq_true, and_true, true_and, and_false, false_and, or_true, true_or, or_false, false_or, Nat.lt_irrefl, Nat.le_refl, Nat.add_zero, Bool.false_eq_true]
  rw [if_pos (by omega)]
  rw [bts_to (f := goB T (nI b)) (c := T 0 6) 8 hc (fun i hi => by unfold goB; rw [at_out hi]; rfl)]
  refine lp_Q (fun n i (_ : Unit) => Md_offer_l22 _ n (nI b) (nI (bts (goB T (nI b)) i)) (nI i) σ) (T 0 6) (fun i _ => True) (fun r => r = some (nI (bts (goB T (nI b)) (T 0 6)), σ)) ?_ ?_ 400 0 () (by omega) trivial (by omega)
  · intro n i a hi _ ih
    have hs := ih () trivial
    have hl := bts_lt (goB T (nI b)) i
    have h6 := (hI.2.2.2.2 i (by omega)).2.2.2.2.2
    have hpl := price_le hI (show i < 8 by omega)
    have hat : atB T 0 i = decide (T 6 i = 0) := by unfold atB; simp [hi]
    by_cases z : T 6 i = 0
    · by_cases z2 : b < price T i
      · have e : goB T (nI b) i = false := by
          unfold goB
          rw [decide_eq_true (show nI b < nI (price T i) from nI_lt z2 (by omega))]
          simp
        rw [bts_f e] at hs
        simp (disch := omega) only [Md_offer_l22, pl_0, pl_1, pl_2, pl_3, pl_4, pl_5, pl_6, pl_7, pl_8, pl_9, pl_10, pl_11, pl_12, pl_13, pl_14, pl_15, pl_16, pl_17, pl_18, pl_19, pl_20, pl_21, pl_30, pl_40, pl_50, pl_51, pl_60, pl_70, pl_71, pl_99, pl_100, pl_160, pl_240, pl_256, pl_300, pl_999, pl_1000, pl_1280, pl_9999, pl_10000, pu_neg, pu_nn, pu_le, pu_lt, pu_eq, pu_cl, pu_in, pu_g, pu_let, pu_bind, pu_m1, pu_add, pu_mul, Nat.not_lt_zero, if_false, if_true, Nat.zero_le, pu_d2, pu_d100, pu_em1, reduceIte, Nat.reduceEqDiff, Nat.reduceLT, Nat.reduceLeDiff, Nat.reduceAdd, Nat.reduceMul, Nat.reduceSub, not_true_eq_false, not_false_eq_true, and_true, true_and, and_false, false_and, or_true, true_or, or_false, false_or, Nat.lt_irrefl, Nat.le_refl, Nat.add_zero, Bool.false_eq_true, if_pos, if_neg, h.c, h.a6, md_price h hI (show i < 8 by omega)]
        exact hs
      · have e : goB T (nI b) i = true := by
          unfold goB
          rw [hat, decide_eq_false (show ¬ nI b < nI (price T i) from nI_nlt (by omega) (by omega))]
          simp [z]
        rw [bts_t e] at hs
        simp (disch := omega) only [Md_offer_l22, pl_0, pl_1, pl_2, pl_3, pl_4, pl_5, pl_6, pl_7, pl_8, pl_9, pl_10, pl_11, pl_12, pl_13, pl_14, pl_15, pl_16, pl_17, pl_18, pl_19, pl_20, pl_21, pl_30, pl_40, pl_50, pl_51, pl_60, pl_70, pl_71, pl_99, pl_100, pl_160, pl_240, pl_256, pl_300, pl_999, pl_1000, pl_1280, pl_9999, pl_10000, pu_neg, pu_nn, pu_le, pu_lt, pu_eq, pu_cl, pu_in, pu_g, pu_let, pu_bind, pu_m1, pu_add, pu_mul, Nat.not_lt_zero, if_false, if_true, Nat.zero_le, pu_d2, pu_d100, pu_em1, reduceIte, Nat.reduceEqDiff, Nat.reduceLT, Nat.reduceLeDiff, Nat.reduceAdd, Nat.reduceMul, Nat.reduceSub, not_true_eq_false, not_false_eq_true, and_true, true_and, and_false, false_and, or_true, true_or, or_false, false_or, Nat.lt_irrefl, Nat.le_refl, Nat.add_zero, Bool.false_eq_true, if_pos, if_neg, h.c, h.a6, md_price h hI (show i < 8 by omega), pu_shl, fa_or, pu_orbit hl]
        exact hs
    · have e : goB T (nI b) i = false := by
        unfold goB
        rw [hat]
        simp [z]
      rw [bts_f e] at hs
      simp (disch := omega) only [Md_offer_l22, pl_0, pl_1, pl_2, pl_3, pl_4, pl_5, pl_6, pl_7, pl_8, pl_9, pl_10, pl_11, pl_12, pl_13, pl_14, pl_15, pl_16, pl_17, pl_18, pl_19, pl_20, pl_21, pl_30, pl_40, pl_50, pl_51, pl_60, pl_70, pl_71, pl_99, pl_100, pl_160, pl_240, pl_256, pl_300, pl_999, pl_1000, pl_1280, pl_9999, pl_10000, pu_neg, pu_nn, pu_le, pu_lt, pu_eq, pu_cl, pu_in, pu_g, pu_let, pu_bind, pu_m1, pu_add, pu_mul, Nat.not_lt_zero, if_false, if_true, Nat.zero_le, pu_d2, pu_d100, pu_em1, reduceIte, Nat.reduceEqDiff, Nat.reduceLT, Nat.reduceLeDiff, Nat.reduceAdd, Nat.reduceMul, Nat.reduceSub, not_true_eq_false, not_false_eq_true, and_true, true_and, and_false, false_and, or_true, true_or, or_false, false_or, Nat.lt_irrefl, Nat.le_refl, Nat.add_zero, Bool.false_eq_true, if_pos, if_neg, h.c, h.a6]
      exact hs
  · intro n a _
    simp (disch := omega) only [Md_offer_l22, pl_0, pl_1, pl_2, pl_3, pl_4, pl_5, pl_6, pl_7, pl_8, pl_9, pl_10, pl_11, pl_12, pl_13, pl_14, pl_15, pl_16, pl_17, pl_18, pl_19, pl_20, pl_21, pl_30, pl_40, pl_50, pl_51, pl_60, pl_70, pl_71, pl_99, pl_100, pl_160, pl_240, pl_256, pl_300, pl_999, pl_1000, pl_1280, pl_9999, pl_10000, pu_neg, pu_nn, pu_le, pu_lt, pu_eq, pu_cl, pu_in, pu_g, pu_let, pu_bind, pu_m1, pu_add, pu_mul, Nat.not_lt_zero, if_false, if_true, Nat.zero_le, pu_d2, pu_d100, pu_em1, reduceIte, Nat.reduceEqDiff, Nat.reduceLT, Nat.reduceLeDiff, Nat.reduceAdd, Nat.reduceMul, Nat.reduceSub, not_true_eq_false, not_false_eq_true, and_true, true_and, and_false, false_and, or_true, true_or, or_false, false_or, Nat.lt_irrefl, Nat.le_refl, Nat.add_zero, Bool.false_eq_true, if_pos, if_neg, h.c]
end IOS
section OPC
variable {T U : is_T} {E : Nat → Nat → Int64}
theorem op_alone (hP : PF T U) (p1 : Int32) : OkQ T U E (Nm_alone p1) (Md_alone p1) := by
  have hI := hP.1
  have hlt := alo_lt hI
  rcases pu_ix p1 2 (by omega) with h1 | h1 | ⟨k, hk, rfl⟩
  · exact qno (b := -nI 5 - nI 10) 5 (by omega) (by omega) (fun σ h => by simp (disch := omega) only [Nm_alone, Nm_isWithin, pl_0, pl_1, pl_2, pl_3, pl_4, pl_5, pl_6, pl_7, pl_8, pl_9, pl_10, pl_11, pl_12, pl_13, pl_14, pl_15, pl_16, pl_17, pl_18, pl_19, pl_20, pl_21, pl_30, pl_40, pl_50, pl_51, pl_60, pl_70, pl_71, pl_99, pl_100, pl_160, pl_240, pl_256, pl_300, pl_999, pl_1000, pl_1280, pl_9999, pl_10000, pu_neg, pu_nn, pu_le, pu_lt, pu_eq, pu_cl, pu_in, pu_g, pu_let, pu_bind, pu_m1, pu_add, pu_mul, Nat.not_lt_zero, if_false, if_true, Nat.zero_le, pu_d2, pu_d100, pu_em1, reduceIte, Nat.reduceEqDiff, Nat.reduceLT, Nat.reduceLeDiff, Nat.reduceAdd, Nat.reduceMul, Nat.reduceSub, not_true_eq_false, not_false_eq_true, and_true, true_and, and_false, false_and, or_true, true_or, or_false, false_or, Nat.lt_irrefl, Nat.le_refl, Nat.add_zero, Bool.false_eq_true, if_pos, if_neg, ngl h1, nge h1, ngle h1, nggt h1, ngne h1, nm_refF]) (fun σ h => by simp (disch := omega) only [Md_alone, pl_0, pl_1, pl_2, pl_3, pl_4, pl_5, pl_6, pl_7, pl_8, pl_9, pl_10, pl_11, pl_12, pl_13, pl_14, pl_15, pl_16, pl_17, pl_18, pl_19, pl_20, pl_21, pl_30, pl_40, pl_50, pl_51, pl_60, pl_70, pl_71, pl_99, pl_100, pl_160, pl_240, pl_256, pl_300, pl_999, pl_1000, pl_1280, pl_9999, pl_10000, pu_neg, pu_nn, pu_le, pu_lt, pu_eq, pu_cl, pu_in, pu_g, pu_let, pu_bind, pu_m1, pu_add, pu_mul, Nat.not_lt_zero, if_false, if_true, Nat.zero_le, pu_d2, pu_d100, pu_em1, reduceIte, Nat.reduceEqDiff, Nat.reduceLT, Nat.reduceLeDiff, Nat.reduceAdd, Nat.reduceMul, Nat.reduceSub, not_true_eq_false, not_false_eq_true, and_true, true_and, and_false, false_and, or_true, true_or, or_false, false_or, Nat.lt_irrefl, Nat.le_refl, Nat.add_zero, Bool.false_eq_true, if_pos, if_neg, ngl h1, nge h1, ngle h1, nggt h1, ngne h1, md_noT])
  · exact qno (b := -nI 5 - nI 10) 5 (by omega) (by omega) (fun σ h => by simp (disch := omega) only [Nm_alone, Nm_isWithin, pl_0, pl_1, pl_2, pl_3, pl_4, pl_5, pl_6, pl_7, pl_8, pl_9, pl_10, pl_11, pl_12, pl_13, pl_14, pl_15, pl_16, pl_17, pl_18, pl_19, pl_20, pl_21, pl_30, pl_40, pl_50, pl_51, pl_60, pl_70, pl_71, pl_99, pl_100, pl_160, pl_240, pl_256, pl_300, pl_999, pl_1000, pl_1280, pl_9999, pl_10000, pu_neg, pu_nn, pu_le, pu_lt, pu_eq, pu_cl, pu_in, pu_g, pu_let, pu_bind, pu_m1, pu_add, pu_mul, Nat.not_lt_zero, if_false, if_true, Nat.zero_le, pu_d2, pu_d100, pu_em1, reduceIte, Nat.reduceEqDiff, Nat.reduceLT, Nat.reduceLeDiff, Nat.reduceAdd, Nat.reduceMul, Nat.reduceSub, not_true_eq_false, not_false_eq_true, and_true, true_and, and_false, false_and, or_true, true_or, or_false, false_or, Nat.lt_irrefl, Nat.le_refl, Nat.add_zero, Bool.false_eq_true, if_pos, if_neg, bgl h1, bge h1, bgle h1, bggt h1, bgne h1, bgm1 h1, nm_refF]) (fun σ h => by simp (disch := omega) only [Md_alone, pl_0, pl_1, pl_2, pl_3, pl_4, pl_5, pl_6, pl_7, pl_8, pl_9, pl_10, pl_11, pl_12, pl_13, pl_14, pl_15, pl_16, pl_17, pl_18, pl_19, pl_20, pl_21, pl_30, pl_40, pl_50, pl_51, pl_60, pl_70, pl_71, pl_99, pl_100, pl_160, pl_240, pl_256, pl_300, pl_999, pl_1000, pl_1280, pl_9999, pl_10000, pu_neg, pu_nn, pu_le, pu_lt, pu_eq, pu_cl, pu_in, pu_g, pu_let, pu_bind, pu_m1, pu_add, pu_mul, Nat.not_lt_zero, if_false, if_true, Nat.zero_le, pu_d2, pu_d100, pu_em1, reduceIte, Nat.reduceEqDiff, Nat.reduceLT, Nat.reduceLeDiff, Nat.reduceAdd, Nat.reduceMul, Nat.reduceSub, not_true_eq_false, not_false_eq_true, and_true, true_and, and_false, false_and, or_true, true_or, or_false, false_or, Nat.lt_irrefl, Nat.le_refl, Nat.add_zero, Bool.false_eq_true, if_pos, if_neg, bgl h1, bge h1, bgle h1, bggt h1, bgne h1, bgm1 h1, md_noT])
  have hk2 : k = 0 ∨ k = 1 := by omega
  rcases hk2 with rfl | rfl
  · refine qeq (nI (aloN T)) (fun σ h => ?_) (fun σ h => ?_)
    · simp (disch := omega) only [Nm_alone, Nm_isWithin, pl_0, pl_1, pl_2, pl_3, pl_4, pl_5, pl_6, pl_7, pl_8, pl_9, pl_10, pl_11, pl_12, pl_13, pl_14, pl_15, pl_16, pl_17, pl_18, pl_19, pl_20, pl_21, pl_30, pl_40, pl_50, pl_51, pl_60, pl_70, pl_71, pl_99, pl_100, pl_160, pl_240, pl_256, pl_300, pl_999, pl_1000, pl_1280, pl_9999, pl_10000, pu_neg, pu_nn, pu_le, pu_lt, pu_eq, pu_cl, pu_in, pu_g, pu_let, pu_bind, pu_m1, pu_add, pu_mul, Nat.not_lt_zero, if_false, if_true, Nat.zero_le, pu_d2, pu_d100, pu_em1, reduceIte, Nat.reduceEqDiff, Nat.reduceLT, Nat.reduceLeDiff, Nat.reduceAdd, Nat.reduceMul, Nat.reduceSub, not_true_eq_false, not_false_eq_true, and_true, true_and, and_false, false_and, or_true, true_or, or_false, false_or, Nat.lt_irrefl, Nat.le_refl, Nat.add_zero, Bool.false_eq_true, if_pos, if_neg, is_knownToOne h.1 hI, aloN]
    · simp (disch := omega) only [Md_alone, pl_0, pl_1, pl_2, pl_3, pl_4, pl_5, pl_6, pl_7, pl_8, pl_9, pl_10, pl_11, pl_12, pl_13, pl_14, pl_15, pl_16, pl_17, pl_18, pl_19, pl_20, pl_21, pl_30, pl_40, pl_50, pl_51, pl_60, pl_70, pl_71, pl_99, pl_100, pl_160, pl_240, pl_256, pl_300, pl_999, pl_1000, pl_1280, pl_9999, pl_10000, pu_neg, pu_nn, pu_le, pu_lt, pu_eq, pu_cl, pu_in, pu_g, pu_let, pu_bind, pu_m1, pu_add, pu_mul, Nat.not_lt_zero, if_false, if_true, Nat.zero_le, pu_d2, pu_d100, pu_em1, reduceIte, Nat.reduceEqDiff, Nat.reduceLT, Nat.reduceLeDiff, Nat.reduceAdd, Nat.reduceMul, Nat.reduceSub, not_true_eq_false, not_false_eq_true, and_true, true_and, and_false, false_and, or_true, true_or, or_false, false_or, Nat.lt_irrefl, Nat.le_refl, Nat.add_zero, Bool.false_eq_true, if_pos, if_neg, md_living h.1 hI, md_aloneSet h.1 hI]
  · refine qeq (nI (fkS T (aloN T) 8).1 - nI 1) (fun σ h => ?_) (fun σ h => ?_)
    · have k1 := is_first h.1 hI hlt
      have k2 := is_knownToOne h.1 hI
      rw [show bts (k1B T) (T 0 7) = aloN T from rfl] at k2
      simp (disch := omega) only [Nm_alone, Nm_isWithin, pl_0, pl_1, pl_2, pl_3, pl_4, pl_5, pl_6, pl_7, pl_8, pl_9, pl_10, pl_11, pl_12, pl_13, pl_14, pl_15, pl_16, pl_17, pl_18, pl_19, pl_20, pl_21, pl_30, pl_40, pl_50, pl_51, pl_60, pl_70, pl_71, pl_99, pl_100, pl_160, pl_240, pl_256, pl_300, pl_999, pl_1000, pl_1280, pl_9999, pl_10000, pu_neg, pu_nn, pu_le, pu_lt, pu_eq, pu_cl, pu_in, pu_g, pu_let, pu_bind, pu_m1, pu_add, pu_mul, Nat.not_lt_zero, if_false, if_true, Nat.zero_le, pu_d2, pu_d100, pu_em1, reduceIte, Nat.reduceEqDiff, Nat.reduceLT, Nat.reduceLeDiff, Nat.reduceAdd, Nat.reduceMul, Nat.reduceSub, not_true_eq_false, not_false_eq_true, and_true, true_and, and_false, false_and, or_true, true_or, or_false, false_or, Nat.lt_irrefl, Nat.le_refl, Nat.add_zero, Bool.false_eq_true, if_pos, if_neg, k1, k2]
    · simp (disch := omega) only [Md_alone, pl_0, pl_1, pl_2, pl_3, pl_4, pl_5, pl_6, pl_7, pl_8, pl_9, pl_10, pl_11, pl_12, pl_13, pl_14, pl_15, pl_16, pl_17, pl_18, pl_19, pl_20, pl_21, pl_30, pl_40, pl_50, pl_51, pl_60, pl_70, pl_71, pl_99, pl_100, pl_160, pl_240, pl_256, pl_300, pl_999, pl_1000, pl_1280, pl_9999, pl_10000, pu_neg, pu_nn, pu_le, pu_lt, pu_eq, pu_cl, pu_in, pu_g, pu_let, pu_bind, pu_m1, pu_add, pu_mul, Nat.not_lt_zero, if_false, if_true, Nat.zero_le, pu_d2, pu_d100, pu_em1, reduceIte, Nat.reduceEqDiff, Nat.reduceLT, Nat.reduceLeDiff, Nat.reduceAdd, Nat.reduceMul, Nat.reduceSub, not_true_eq_false, not_false_eq_true, and_true, true_and, and_false, false_and, or_true, true_or, or_false, false_or, Nat.lt_irrefl, Nat.le_refl, Nat.add_zero, Bool.false_eq_true, if_pos, if_neg, md_living h.1 hI, md_aloneSet h.1 hI]
      by_cases z : aloN T = 0
      · have e0 : ∀ n, fkS T 0 n = (0, 0) := by
          intro n
          induction n with
          | zero => rfl
          | succ n ih =>
            rw [fk_f]
            · exact ih
            · rw [ih, Nat.and_zero, pcN_0]
              simp
        have hc := hI.1
        rw [z, e0, Md_alone_l71]
        simp (disch := omega) only [pl_0, pl_1, pl_2, pl_3, pl_4, pl_5, pl_6, pl_7, pl_8, pl_9, pl_10, pl_11, pl_12, pl_13, pl_14, pl_15, pl_16, pl_17, pl_18, pl_19, pl_20, pl_21, pl_30, pl_40, pl_50, pl_51, pl_60, pl_70, pl_71, pl_99, pl_100, pl_160, pl_240, pl_256, pl_300, pl_999, pl_1000, pl_1280, pl_9999, pl_10000, pu_neg, pu_nn, pu_le, pu_lt, pu_eq, pu_cl, pu_in, pu_g, pu_let, pu_bind, pu_m1, pu_add, pu_mul, Nat.not_lt_zero, if_false, if_true, Nat.zero_le, pu_d2, pu_d100, pu_em1, reduceIte, Nat.reduceEqDiff, Nat.reduceLT, Nat.reduceLeDiff, Nat.reduceAdd, Nat.reduceMul, Nat.reduceSub, not_true_eq_false, not_false_eq_true, and_true, true_and, and_false, false_and, or_true, true_or, or_false, false_or, Nat.lt_irrefl, Nat.le_refl, Nat.add_zero, Bool.false_eq_true, h.1.c]
        by_cases z0 : T 0 6 ≤ 0
        · rw [if_pos z0, pu_01]
        · rw [if_neg z0, pu_01]
      · exact md_key h.1 hI z
theorem op_lessons (hP : PF T U) (p1 : Int32) : OkQ T U E (Nm_lessons p1) (Md_lessons p1) := by
  have hI := hP.1
  rcases pu_ix p1 9 (by omega) with h1 | h1 | ⟨k, hk, rfl⟩
  · exact qno (b := -nI 6 - nI 10) 6 (by omega) (by omega) (fun σ h => by simp (disch := omega) only [Nm_lessons, Nm_isWithin, pl_0, pl_1, pl_2, pl_3, pl_4, pl_5, pl_6, pl_7, pl_8, pl_9, pl_10, pl_11, pl_12, pl_13, pl_14, pl_15, pl_16, pl_17, pl_18, pl_19, pl_20, pl_21, pl_30, pl_40, pl_50, pl_51, pl_60, pl_70, pl_71, pl_99, pl_100, pl_160, pl_240, pl_256, pl_300, pl_999, pl_1000, pl_1280, pl_9999, pl_10000, pu_neg, pu_nn, pu_le, pu_lt, pu_eq, pu_cl, pu_in, pu_g, pu_let, pu_bind, pu_m1, pu_add, pu_mul, Nat.not_lt_zero, if_false, if_true, Nat.zero_le, pu_d2, pu_d100, pu_em1, reduceIte, Nat.reduceEqDiff, Nat.reduceLT, Nat.reduceLeDiff, Nat.reduceAdd, Nat.reduceMul, Nat.reduceSub, not_true_eq_false, not_false_eq_true, and_true, true_and, and_false, false_and, or_true, true_or, or_false, false_or, Nat.lt_irrefl, Nat.le_refl, Nat.add_zero, Bool.false_eq_true, if_pos, if_neg, ngl h1, nge h1, ngle h1, nggt h1, ngne h1, nm_refF]) (fun σ h => by simp (disch := omega) only [Md_lessons, pl_0, pl_1, pl_2, pl_3, pl_4, pl_5, pl_6, pl_7, pl_8, pl_9, pl_10, pl_11, pl_12, pl_13, pl_14, pl_15, pl_16, pl_17, pl_18, pl_19, pl_20, pl_21, pl_30, pl_40, pl_50, pl_51, pl_60, pl_70, pl_71, pl_99, pl_100, pl_160, pl_240, pl_256, pl_300, pl_999, pl_1000, pl_1280, pl_9999, pl_10000, pu_neg, pu_nn, pu_le, pu_lt, pu_eq, pu_cl, pu_in, pu_g, pu_let, pu_bind, pu_m1, pu_add, pu_mul, Nat.not_lt_zero, if_false, if_true, Nat.zero_le, pu_d2, pu_d100, pu_em1, reduceIte, Nat.reduceEqDiff, Nat.reduceLT, Nat.reduceLeDiff, Nat.reduceAdd, Nat.reduceMul, Nat.reduceSub, not_true_eq_false, not_false_eq_true, and_true, true_and, and_false, false_and, or_true, true_or, or_false, false_or, Nat.lt_irrefl, Nat.le_refl, Nat.add_zero, Bool.false_eq_true, if_pos, if_neg, ngl h1, nge h1, ngle h1, nggt h1, ngne h1, md_noT])
  · exact qno (b := -nI 6 - nI 10) 6 (by omega) (by omega) (fun σ h => by simp (disch := omega) only [Nm_lessons, Nm_isWithin, pl_0, pl_1, pl_2, pl_3, pl_4, pl_5, pl_6, pl_7, pl_8, pl_9, pl_10, pl_11, pl_12, pl_13, pl_14, pl_15, pl_16, pl_17, pl_18, pl_19, pl_20, pl_21, pl_30, pl_40, pl_50, pl_51, pl_60, pl_70, pl_71, pl_99, pl_100, pl_160, pl_240, pl_256, pl_300, pl_999, pl_1000, pl_1280, pl_9999, pl_10000, pu_neg, pu_nn, pu_le, pu_lt, pu_eq, pu_cl, pu_in, pu_g, pu_let, pu_bind, pu_m1, pu_add, pu_mul, Nat.not_lt_zero, if_false, if_true, Nat.zero_le, pu_d2, pu_d100, pu_em1, reduceIte, Nat.reduceEqDiff, Nat.reduceLT, Nat.reduceLeDiff, Nat.reduceAdd, Nat.reduceMul, Nat.reduceSub, not_true_eq_false, not_false_eq_true, and_true, true_and, and_false, false_and, or_true, true_or, or_false, false_or, Nat.lt_irrefl, Nat.le_refl, Nat.add_zero, Bool.false_eq_true, if_pos, if_neg, bgl h1, bge h1, bgle h1, bggt h1, bgne h1, bgm1 h1, nm_refF]) (fun σ h => by simp (disch := omega) only [Md_lessons, pl_0, pl_1, pl_2, pl_3, pl_4, pl_5, pl_6, pl_7, pl_8, pl_9, pl_10, pl_11, pl_12, pl_13, pl_14, pl_15, pl_16, pl_17, pl_18, pl_19, pl_20, pl_21, pl_30, pl_40, pl_50, pl_51, pl_60, pl_70, pl_71, pl_99, pl_100, pl_160, pl_240, pl_256, pl_300, pl_999, pl_1000, pl_1280, pl_9999, pl_10000, pu_neg, pu_nn, pu_le, pu_lt, pu_eq, pu_cl, pu_in, pu_g, pu_let, pu_bind, pu_m1, pu_add, pu_mul, Nat.not_lt_zero, if_false, if_true, Nat.zero_le, pu_d2, pu_d100, pu_em1, reduceIte, Nat.reduceEqDiff, Nat.reduceLT, Nat.reduceLeDiff, Nat.reduceAdd, Nat.reduceMul, Nat.reduceSub, not_true_eq_false, not_false_eq_true, and_true, true_and, and_false, false_and, or_true, true_or, or_false, false_or, Nat.lt_irrefl, Nat.le_refl, Nat.add_zero, Bool.false_eq_true, if_pos, if_neg, bgl h1, bge h1, bgle h1, bggt h1, bgne h1, bgm1 h1, md_noT])
  refine qeq (lesR T k) (fun σ h => ?_) (fun σ h => ?_)
  · simp (disch := omega) only [Nm_lessons, Nm_isWithin, pl_0, pl_1, pl_2, pl_3, pl_4, pl_5, pl_6, pl_7, pl_8, pl_9, pl_10, pl_11, pl_12, pl_13, pl_14, pl_15, pl_16, pl_17, pl_18, pl_19, pl_20, pl_21, pl_30, pl_40, pl_50, pl_51, pl_60, pl_70, pl_71, pl_99, pl_100, pl_160, pl_240, pl_256, pl_300, pl_999, pl_1000, pl_1280, pl_9999, pl_10000, pu_neg, pu_nn, pu_le, pu_lt, pu_eq, pu_cl, pu_in, pu_g, pu_let, pu_bind, pu_m1, pu_add, pu_mul, Nat.not_lt_zero, if_false, if_true, Nat.zero_le, pu_d2, pu_d100, pu_em1, reduceIte, Nat.reduceEqDiff, Nat.reduceLT, Nat.reduceLeDiff, Nat.reduceAdd, Nat.reduceMul, Nat.reduceSub, not_true_eq_false, not_false_eq_true, and_true, true_and, and_false, false_and, or_true, true_or, or_false, false_or, Nat.lt_irrefl, Nat.le_refl, Nat.add_zero, Bool.false_eq_true, if_pos, if_neg, is_lessonsFor h.1 hI (show k ≤ 8 by omega)]
  · exact md_lessons h.1 hI (by omega)
theorem op_offer (hP : PF T U) (p1 : Int32) : OkQ T U E (Nm_offer p1) (Md_offer p1) := by
  have hI := hP.1
  rcases pu_ix p1 1000 (by omega) with h1 | h1 | ⟨b, hb, rfl⟩
  · exact qno (b := -nI 6) 6 (by omega) (by omega) (fun σ h => by simp (disch := omega) only [Nm_offer, Nm_isWithin, pl_0, pl_1, pl_2, pl_3, pl_4, pl_5, pl_6, pl_7, pl_8, pl_9, pl_10, pl_11, pl_12, pl_13, pl_14, pl_15, pl_16, pl_17, pl_18, pl_19, pl_20, pl_21, pl_30, pl_40, pl_50, pl_51, pl_60, pl_70, pl_71, pl_99, pl_100, pl_160, pl_240, pl_256, pl_300, pl_999, pl_1000, pl_1280, pl_9999, pl_10000, pu_neg, pu_nn, pu_le, pu_lt, pu_eq, pu_cl, pu_in, pu_g, pu_let, pu_bind, pu_m1, pu_add, pu_mul, Nat.not_lt_zero, if_false, if_true, Nat.zero_le, pu_d2, pu_d100, pu_em1, reduceIte, Nat.reduceEqDiff, Nat.reduceLT, Nat.reduceLeDiff, Nat.reduceAdd, Nat.reduceMul, Nat.reduceSub, not_true_eq_false, not_false_eq_true, and_true, true_and, and_false, false_and, or_true, true_or, or_false, false_or, Nat.lt_irrefl, Nat.le_refl, Nat.add_zero, Bool.false_eq_true, if_pos, if_neg, ngl h1, nge h1, ngle h1, nggt h1, ngne h1, nm_ref]) (fun σ h => by simp (disch := omega) only [Md_offer, pl_0, pl_1, pl_2, pl_3, pl_4, pl_5, pl_6, pl_7, pl_8, pl_9, pl_10, pl_11, pl_12, pl_13, pl_14, pl_15, pl_16, pl_17, pl_18, pl_19, pl_20, pl_21, pl_30, pl_40, pl_50, pl_51, pl_60, pl_70, pl_71, pl_99, pl_100, pl_160, pl_240, pl_256, pl_300, pl_999, pl_1000, pl_1280, pl_9999, pl_10000, pu_neg, pu_nn, pu_le, pu_lt, pu_eq, pu_cl, pu_in, pu_g, pu_let, pu_bind, pu_m1, pu_add, pu_mul, Nat.not_lt_zero, if_false, if_true, Nat.zero_le, pu_d2, pu_d100, pu_em1, reduceIte, Nat.reduceEqDiff, Nat.reduceLT, Nat.reduceLeDiff, Nat.reduceAdd, Nat.reduceMul, Nat.reduceSub, not_true_eq_false, not_false_eq_true, and_true, true_and, and_false, false_and, or_true, true_or, or_false, false_or, Nat.lt_irrefl, Nat.le_refl, Nat.add_zero, Bool.false_eq_true, if_pos, if_neg, ngl h1, nge h1, ngle h1, nggt h1, ngne h1, md_no])
  · exact qno (b := -nI 6) 6 (by omega) (by omega) (fun σ h => by simp (disch := omega) only [Nm_offer, Nm_isWithin, pl_0, pl_1, pl_2, pl_3, pl_4, pl_5, pl_6, pl_7, pl_8, pl_9, pl_10, pl_11, pl_12, pl_13, pl_14, pl_15, pl_16, pl_17, pl_18, pl_19, pl_20, pl_21, pl_30, pl_40, pl_50, pl_51, pl_60, pl_70, pl_71, pl_99, pl_100, pl_160, pl_240, pl_256, pl_300, pl_999, pl_1000, pl_1280, pl_9999, pl_10000, pu_neg, pu_nn, pu_le, pu_lt, pu_eq, pu_cl, pu_in, pu_g, pu_let, pu_bind, pu_m1, pu_add, pu_mul, Nat.not_lt_zero, if_false, if_true, Nat.zero_le, pu_d2, pu_d100, pu_em1, reduceIte, Nat.reduceEqDiff, Nat.reduceLT, Nat.reduceLeDiff, Nat.reduceAdd, Nat.reduceMul, Nat.reduceSub, not_true_eq_false, not_false_eq_true, and_true, true_and, and_false, false_and, or_true, true_or, or_false, false_or, Nat.lt_irrefl, Nat.le_refl, Nat.add_zero, Bool.false_eq_true, if_pos, if_neg, bgl h1, bge h1, bgle h1, bggt h1, bgne h1, bgm1 h1, nm_ref]) (fun σ h => by simp (disch := omega) only [Md_offer, pl_0, pl_1, pl_2, pl_3, pl_4, pl_5, pl_6, pl_7, pl_8, pl_9, pl_10, pl_11, pl_12, pl_13, pl_14, pl_15, pl_16, pl_17, pl_18, pl_19, pl_20, pl_21, pl_30, pl_40, pl_50, pl_51, pl_60, pl_70, pl_71, pl_99, pl_100, pl_160, pl_240, pl_256, pl_300, pl_999, pl_1000, pl_1280, pl_9999, pl_10000, pu_neg, pu_nn, pu_le, pu_lt, pu_eq, pu_cl, pu_in, pu_g, pu_let, pu_bind, pu_m1, pu_add, pu_mul, Nat.not_lt_zero, if_false, if_true, Nat.zero_le, pu_d2, pu_d100, pu_em1, reduceIte, Nat.reduceEqDiff, Nat.reduceLT, Nat.reduceLeDiff, Nat.reduceAdd, Nat.reduceMul, Nat.reduceSub, not_true_eq_false, not_false_eq_true, and_true, true_and, and_false, false_and, or_true, true_or, or_false, false_or, Nat.lt_irrefl, Nat.le_refl, Nat.add_zero, Bool.false_eq_true, if_pos, if_neg, bgl h1, bge h1, bgle h1, bggt h1, bgne h1, bgm1 h1, md_no])
  refine qeq (nI (bts (goB T (nI b)) 8)) (fun σ h => ?_) (fun σ h => ?_)
  · simp (disch := omega) only [Nm_offer, Nm_isWithin, pl_0, pl_1, pl_2, pl_3, pl_4, pl_5, pl_6, pl_7, pl_8, pl_9, pl_10, pl_11, pl_12, pl_13, pl_14, pl_15, pl_16, pl_17, pl_18, pl_19, pl_20, pl_21, pl_30, pl_40, pl_50, pl_51, pl_60, pl_70, pl_71, pl_99, pl_100, pl_160, pl_240, pl_256, pl_300, pl_999, pl_1000, pl_1280, pl_9999, pl_10000, pu_neg, pu_nn, pu_le, pu_lt, pu_eq, pu_cl, pu_in, pu_g, pu_let, pu_bind, pu_m1, pu_add, pu_mul, Nat.not_lt_zero, if_false, if_true, Nat.zero_le, pu_d2, pu_d100, pu_em1, reduceIte, Nat.reduceEqDiff, Nat.reduceLT, Nat.reduceLeDiff, Nat.reduceAdd, Nat.reduceMul, Nat.reduceSub, not_true_eq_false, not_false_eq_true, and_true, true_and, and_false, false_and, or_true, true_or, or_false, false_or, Nat.lt_irrefl, Nat.le_refl, Nat.add_zero, Bool.false_eq_true, if_pos, if_neg, is_whoGoesFor h.1 hI]
  · exact md_offer h.1 hI (by omega)
end OPC
