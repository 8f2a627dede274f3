/-! letters by the council: both sides -/
def mayB (T : is_T) (n : Nat) : Bool := atB T 1 n && (decide (0 < kinC T n) || dblB T n)
def senS (T : is_T) : Nat → Nat × is_T
  | 0 => (0, T)
  | n + 1 => if mayB (senS T n).2 n then (if drN ((senS T n).2 0 11) 100 < (senS T n).2 0 8 then ((senS T n).1 + 1, nm_up (drT (senS T n).2) 6 n 0) else ((senS T n).1, drT (senS T n).2)) else senS T n
theorem sen_f {T : is_T} {n : Nat} (h : mayB (senS T n).2 n = false) : senS T (n + 1) = senS T n := if_neg (by rw [h]; decide)
theorem sen_t {T : is_T} {n : Nat} (h : mayB (senS T n).2 n = true) (h2 : drN ((senS T n).2 0 11) 100 < (senS T n).2 0 8) : senS T (n + 1) = ((senS T n).1 + 1, nm_up (drT (senS T n).2) 6 n 0) := (if_pos h).trans (if_pos h2)
theorem sen_u {T : is_T} {n : Nat} (h : mayB (senS T n).2 n = true) (h2 : ¬ drN ((senS T n).2 0 11) 100 < (senS T n).2 0 8) : senS T (n + 1) = ((senS T n).1, drT (senS T n).2) := (if_pos h).trans (if_neg h2)
theorem sen_I {T : is_T} (hI : IslI T) : ∀ n, IslI (senS T n).2 ∧ (senS T n).2 0 6 = T 0 6 := by
  intro n
  induction n with
  | zero => exact ⟨hI, rfl⟩
  | succ n ih =>
    cases e : mayB (senS T n).2 n with
    | false => rw [sen_f e]; exact ih
    | true =>
      by_cases e2 : drN ((senS T n).2 0 11) 100 < (senS T n).2 0 8
      · rw [sen_t e e2]
        exact ⟨(dr_I ih.1).up (ok_r6 (by omega)), (show nm_up (drT (senS T n).2) 6 n 0 0 6 = T 0 6 by rw [up_at, if_neg (by omega), dr_6]; exact ih.2)⟩
      · rw [sen_u e e2]
        exact ⟨dr_I ih.1, (show drT (senS T n).2 0 6 = T 0 6 by rw [dr_6]; exact ih.2)⟩
theorem sen_to {T : is_T} (hI : IslI T) {c : Nat} (hc : T 0 6 = c) : ∀ n, c ≤ n → senS T n = senS T c := by
  intro n
  induction n with
  | zero => intro h; rw [show c = 0 by omega]
  | succ n ih =>
    intro h
    by_cases e : c = n + 1
    · rw [e]
    · rw [sen_f]
      · exact ih (by omega)
      · unfold mayB
        rw [at_out (by rw [(sen_I hI n).2]; omega)]
        rfl
section ISO
variable {σ : nm_St} {o : Nat} {T : is_T}
theorem drN_lt (s : Nat) {p : Nat} (h : 0 < p) : drN s p < p := Nat.mod_lt _ h
theorem sl_go (k : Int32 → Int32 → nm_St → Option (Int32 × nm_St)) (h : IslR σ o T) (hI : IslI T) {c i : Nat} (hm : i < T 0 6) : ∃ τ, (Is_sendLetters_j45 o k (nI c) (nI i) (nI 1) σ = if drN (T 0 11) 100 < T 0 8 then k (nI (c + 1)) (nI (i + 1)) τ else k (nI c) (nI (i + 1)) τ) ∧ IslU σ o τ (if drN (T 0 11) 100 < T 0 8 then nm_up (drT T) 6 i 0 else drT T) := by
  have hc := hI.1
  have hf := hI.2.2.1
  obtain ⟨ρ, e1, u1⟩ := is_drawN h (show 0 < 100 by omega) (by omega)
  have hd := drN_lt (T 0 11) (show 0 < 100 by omega)
  have hR := u1.1
  have k8 : ρ.1 o 8 = nI (T 0 8) := by rw [hR.f, dr_8]
  have kM := up_moveTo hR (dr_I hI) (show i < drT T 0 6 by rw [dr_6]; exact hm) (nI 0)
  by_cases c1 : drN (T 0 11) 100 < T 0 8
  · refine ⟨nm_pI ρ (o + 6) i (nI 0), ?_, ?_⟩
    · rw [if_pos c1]
      simp (disch := omega) only [Is_sendLetters_j45, pl_0, pl_1, pl_2, pl_3, pl_4, pl_5, pl_6, pl_7, pl_8, pl_9, pl_10, pl_11, pl_12, pl_13, pl_14, pl_15, pl_16, pl_17, pl_18, pl_19, pl_20, pl_21, pl_30, pl_40, pl_50, pl_51, pl_60, pl_70, pl_71, pl_99, pl_100, pl_160, pl_240, pl_256, pl_300, pl_999, pl_1000, pl_1280, pl_9999, pl_10000, pu_neg, pu_nn, pu_le, pu_lt, pu_eq, pu_cl, pu_in, pu_g, pu_let, pu_bind, pu_m1, pu_add, pu_mul, Nat.not_lt_zero, if_false, if_true, Nat.zero_le, pu_d2, pu_d100, pu_em1, reduceIte, Nat.reduceEqDiff, Nat.reduceLT, Nat.reduceLeDiff, Nat.reduceAdd, Nat.reduceMul, Nat.reduceSub, not_true_eq_false, not_false_eq_true, and_true, true_and, and_false, false_and, or_true, true_or, or_false, false_or, Nat.lt_irrefl, Nat.le_refl, Nat.add_zero, Bool.false_eq_true, e1, k8, kM]
      rw [if_neg (by omega)]
    · rw [if_pos c1]
      exact u1.up (r := 6) _ (by omega) (by omega) (by omega)
  · refine ⟨ρ, ?_, ?_⟩
    · rw [if_neg c1]
      simp (disch := omega) only [Is_sendLetters_j45, pl_0, pl_1, pl_2, pl_3, pl_4, pl_5, pl_6, pl_7, pl_8, pl_9, pl_10, pl_11, pl_12, pl_13, pl_14, pl_15, pl_16, pl_17, pl_18, pl_19, pl_20, pl_21, pl_30, pl_40, pl_50, pl_51, pl_60, pl_70, pl_71, pl_99, pl_100, pl_160, pl_240, pl_256, pl_300, pl_999, pl_1000, pl_1280, pl_9999, pl_10000, pu_neg, pu_nn, pu_le, pu_lt, pu_eq, pu_cl, pu_in, pu_g, pu_let, pu_bind, pu_m1, pu_add, pu_mul, Nat.not_lt_zero, if_false, if_true, Nat.zero_le, pu_d2, pu_d100, pu_em1, reduceIte, Nat.reduceEqDiff, Nat.reduceLT, Nat.reduceLeDiff, Nat.reduceAdd, Nat.reduceMul, Nat.reduceSub, not_true_eq_false, not_false_eq_true, and_true, true_and, and_false, false_and, or_true, true_or, or_false, false_or, Nat.lt_irrefl, Nat.le_refl, Nat.add_zero, Bool.false_eq_true, e1, k8]
      rw [if_pos (by omega)]
    · rw [if_neg c1]
      exact u1
theorem is_sendLetters (h : IslR σ o T) (hI : IslI T) : ∃ τ, Is_sendLetters o σ = some (nI (senS T 8).1, τ) ∧ IslU σ o τ (senS T 8).2 := by
  unfold Is_sendLetters
  simp only [pl_0, pl_1, pl_2, pl_3, pl_4, pl_5, pl_6, pl_7, pl_8, pl_9, pl_10, pl_11, pl_12, pl_13, pl_14, pl_15, pl_16, pl_17, pl_18, pl_19, pl_20, pl_21, pl_30, pl_40, pl_50, pl_51, pl_60, pl_70, pl_71, pl_99, pl_100, pl_160, pl_240, pl_256, pl_300, pl_999, pl_1000, pl_1280, pl_9999, pl_10000]
  refine lp_Q (fun n i (a : nm_St) => Is_sendLetters_l4 o _ n (nI (senS T i).1) (nI i) a) 8 (fun i a => IslU σ o a (senS T i).2) (fun r => ∃ τ, r = some (nI (senS T 8).1, τ) ∧ IslU σ o τ (senS T 8).2) ?_ ?_ 400 0 σ (by omega) (IslU.rf h) (by omega)
  · intro n i a hi hp ih
    obtain ⟨hJ, h6⟩ := sen_I hI i
    have hR := hp.1
    have hc := hI.1
    generalize hs : senS T i = s at *
    have kA := is_isAt hR hJ hi (show 1 ≤ 3 by omega)
    have kD := is_dbl (σ := a) hJ hi
    have k1 := hR.a 1 hi
    have fin : mayB s.2 i = false → ∃ τ, Is_sendLetters_l4 o (fun (e14 : Int32) (s13 : nm_St) => some (e14, s13)) n (nI s.1) (nI (i + 1)) a = some (nI (senS T 8).1, τ) ∧ IslU σ o τ (senS T 8).2 := by
      intro e
      have := ih a (by rw [sen_f (by rw [hs]; exact e), hs]; exact hp)
      rw [sen_f (by rw [hs]; exact e), hs] at this
      exact this
    have go : mayB s.2 i = true → ∃ τ, Is_sendLetters_j45 o (Is_sendLetters_l4 o (fun (e14 : Int32) (s13 : nm_St) => some (e14, s13)) n) (nI s.1) (nI i) (nI 1) a = some (nI (senS T 8).1, τ) ∧ IslU σ o τ (senS T 8).2 := by
      intro e
      have hm : i < s.2 0 6 := at_lt (q := 1) (by unfold mayB at e; simp only [Bool.and_eq_true] at e; exact e.1)
      obtain ⟨ρ, e1, u1⟩ := sl_go (Is_sendLetters_l4 o (fun (e14 : Int32) (s13 : nm_St) => some (e14, s13)) n) hR hJ (c := s.1) hm
      rw [e1]
      by_cases c1 : drN (s.2 0 11) 100 < s.2 0 8
      · rw [if_pos c1] at u1 ⊢
        have := ih ρ (by rw [sen_t (by rw [hs]; exact e) (by rw [hs]; exact c1), hs]; exact hp.tr u1)
        rw [sen_t (by rw [hs]; exact e) (by rw [hs]; exact c1), hs] at this
        exact this
      · rw [if_neg c1] at u1 ⊢
        have := ih ρ (by rw [sen_u (by rw [hs]; exact e) (by rw [hs]; exact c1), hs]; exact hp.tr u1)
        rw [sen_u (by rw [hs]; exact e) (by rw [hs]; exact c1), hs] at this
        exact this
    cases e1 : atB s.2 1 i with
    | false =>
      have e : mayB s.2 i = false := by unfold mayB; rw [e1]; rfl
      rw [e1] at kA
      have := fin e
      simp (disch := omega) only [Is_sendLetters_l4, Is_sendLetters_j44, Is_sendLetters_j45, pl_0, pl_1, pl_2, pl_3, pl_4, pl_5, pl_6, pl_7, pl_8, pl_9, pl_10, pl_11, pl_12, pl_13, pl_14, pl_15, pl_16, pl_17, pl_18, pl_19, pl_20, pl_21, pl_30, pl_40, pl_50, pl_51, pl_60, pl_70, pl_71, pl_99, pl_100, pl_160, pl_240, pl_256, pl_300, pl_999, pl_1000, pl_1280, pl_9999, pl_10000, pu_neg, pu_nn, pu_le, pu_lt, pu_eq, pu_cl, pu_in, pu_g, pu_let, pu_bind, pu_m1, pu_add, pu_mul, Nat.not_lt_zero, if_false, if_true, Nat.zero_le, pu_d2, pu_d100, pu_em1, reduceIte, Nat.reduceEqDiff, Nat.reduceLT, Nat.reduceLeDiff, Nat.reduceAdd, Nat.reduceMul, Nat.reduceSub, not_true_eq_false, not_false_eq_true, and_true, true_and, and_false, false_and, or_true, true_or, or_false, false_or, Nat.lt_irrefl, Nat.le_refl, Nat.add_zero, Bool.false_eq_true, kA]
      rw [if_neg (by omega)]
      exact this
    | true =>
      rw [e1] at kA
      have hm := at_lt e1
      have kK := is_kinAtHome hR hJ hm
      have hk8 := kinC_le s.2 i
      by_cases z : 0 < kinC s.2 i
      · have e : mayB s.2 i = true := by unfold mayB; simp [e1, z]
        have := go e
        simp (disch := omega) only [Is_sendLetters_l4, Is_sendLetters_j40, pl_0, pl_1, pl_2, pl_3, pl_4, pl_5, pl_6, pl_7, pl_8, pl_9, pl_10, pl_11, pl_12, pl_13, pl_14, pl_15, pl_16, pl_17, pl_18, pl_19, pl_20, pl_21, pl_30, pl_40, pl_50, pl_51, pl_60, pl_70, pl_71, pl_99, pl_100, pl_160, pl_240, pl_256, pl_300, pl_999, pl_1000, pl_1280, pl_9999, pl_10000, pu_neg, pu_nn, pu_le, pu_lt, pu_eq, pu_cl, pu_in, pu_g, pu_let, pu_bind, pu_m1, pu_add, pu_mul, Nat.not_lt_zero, if_false, if_true, Nat.zero_le, pu_d2, pu_d100, pu_em1, reduceIte, Nat.reduceEqDiff, Nat.reduceLT, Nat.reduceLeDiff, Nat.reduceAdd, Nat.reduceMul, Nat.reduceSub, not_true_eq_false, not_false_eq_true, and_true, true_and, and_false, false_and, or_true, true_or, or_false, false_or, Nat.lt_irrefl, Nat.le_refl, Nat.add_zero, Bool.false_eq_true, kA, kK]
        rw [if_neg (by omega), if_pos z]
        exact this
      · cases e2 : dblB s.2 i with
        | true =>
          have e : mayB s.2 i = true := by unfold mayB; simp [e1, e2]
          rw [e2] at kD
          have := go e
          simp (disch := omega) only [Is_sendLetters_l4, Is_sendLetters_j40, pl_0, pl_1, pl_2, pl_3, pl_4, pl_5, pl_6, pl_7, pl_8, pl_9, pl_10, pl_11, pl_12, pl_13, pl_14, pl_15, pl_16, pl_17, pl_18, pl_19, pl_20, pl_21, pl_30, pl_40, pl_50, pl_51, pl_60, pl_70, pl_71, pl_99, pl_100, pl_160, pl_240, pl_256, pl_300, pl_999, pl_1000, pl_1280, pl_9999, pl_10000, pu_neg, pu_nn, pu_le, pu_lt, pu_eq, pu_cl, pu_in, pu_g, pu_let, pu_bind, pu_m1, pu_add, pu_mul, Nat.not_lt_zero, if_false, if_true, Nat.zero_le, pu_d2, pu_d100, pu_em1, reduceIte, Nat.reduceEqDiff, Nat.reduceLT, Nat.reduceLeDiff, Nat.reduceAdd, Nat.reduceMul, Nat.reduceSub, not_true_eq_false, not_false_eq_true, and_true, true_and, and_false, false_and, or_true, true_or, or_false, false_or, Nat.lt_irrefl, Nat.le_refl, Nat.add_zero, Bool.false_eq_true, kA, kK, k1, kD]
          rw [if_neg (by omega), if_neg z]
          exact this
        | false =>
          have e : mayB s.2 i = false := by unfold mayB; simp [e1, e2, z]
          rw [e2] at kD
          have := fin e
          simp (disch := omega) only [Is_sendLetters_l4, Is_sendLetters_j44, Is_sendLetters_j45, pl_0, pl_1, pl_2, pl_3, pl_4, pl_5, pl_6, pl_7, pl_8, pl_9, pl_10, pl_11, pl_12, pl_13, pl_14, pl_15, pl_16, pl_17, pl_18, pl_19, pl_20, pl_21, pl_30, pl_40, pl_50, pl_51, pl_60, pl_70, pl_71, pl_99, pl_100, pl_160, pl_240, pl_256, pl_300, pl_999, pl_1000, pl_1280, pl_9999, pl_10000, pu_neg, pu_nn, pu_le, pu_lt, pu_eq, pu_cl, pu_in, pu_g, pu_let, pu_bind, pu_m1, pu_add, pu_mul, Nat.not_lt_zero, if_false, if_true, Nat.zero_le, pu_d2, pu_d100, pu_em1, reduceIte, Nat.reduceEqDiff, Nat.reduceLT, Nat.reduceLeDiff, Nat.reduceAdd, Nat.reduceMul, Nat.reduceSub, not_true_eq_false, not_false_eq_true, and_true, true_and, and_false, false_and, or_true, true_or, or_false, false_or, Nat.lt_irrefl, Nat.le_refl, Nat.add_zero, Bool.false_eq_true, kA, kK, k1, kD]
          rw [if_neg (by omega), if_neg z]
          exact this
  · intro n a hp
    simp (disch := omega) only [Is_sendLetters_l4, pl_0, pl_1, pl_2, pl_3, pl_4, pl_5, pl_6, pl_7, pl_8, pl_9, pl_10, pl_11, pl_12, pl_13, pl_14, pl_15, pl_16, pl_17, pl_18, pl_19, pl_20, pl_21, pl_30, pl_40, pl_50, pl_51, pl_60, pl_70, pl_71, pl_99, pl_100, pl_160, pl_240, pl_256, pl_300, pl_999, pl_1000, pl_1280, pl_9999, pl_10000, pu_neg, pu_nn, pu_le, pu_lt, pu_eq, pu_cl, pu_in, pu_g, pu_let, pu_bind, pu_m1, pu_add, pu_mul, Nat.not_lt_zero, if_false, if_true, Nat.zero_le, pu_d2, pu_d100, pu_em1, reduceIte, Nat.reduceEqDiff, Nat.reduceLT, Nat.reduceLeDiff, Nat.reduceAdd, Nat.reduceMul, Nat.reduceSub, not_true_eq_false, not_false_eq_true, and_true, true_and, and_false, false_and, or_true, true_or, or_false, false_or, Nat.lt_irrefl, Nat.le_refl, Nat.add_zero, Bool.false_eq_true]
    exact ⟨_, rfl, hp⟩
theorem ml_go (k : Int32 → Int32 → nm_St → Option (Int32 × nm_St)) (h : MdR σ T) (hI : IslI T) {c i : Nat} (hm : i < T 0 6) : ∃ τ, (Md_writes_j41 k (nI c) (nI i) σ = if drN (T 0 11) 100 < T 0 8 then k (nI (c + 1)) (nI (i + 1)) τ else k (nI c) (nI (i + 1)) τ) ∧ MdU σ τ (if drN (T 0 11) 100 < T 0 8 then nm_up (drT T) 6 i 0 else drT T) := by
  have hc := hI.1
  have hf := hI.2.2.1
  obtain ⟨ρ, e1, u1⟩ := md_drawN h (show 0 < 100 by omega) (by omega)
  have hd := drN_lt (T 0 11) (show 0 < 100 by omega)
  have hR := u1.1
  have k8 : ρ.1 70 2 = nI (T 0 8) := by rw [hR.f, dr_8]
  by_cases c1 : drN (T 0 11) 100 < T 0 8
  · refine ⟨nm_pI ρ 77 i (nI 0), ?_, ?_⟩
    · rw [if_pos c1]
      simp (disch := omega) only [Md_writes_j41, pl_0, pl_1, pl_2, pl_3, pl_4, pl_5, pl_6, pl_7, pl_8, pl_9, pl_10, pl_11, pl_12, pl_13, pl_14, pl_15, pl_16, pl_17, pl_18, pl_19, pl_20, pl_21, pl_30, pl_40, pl_50, pl_51, pl_60, pl_70, pl_71, pl_99, pl_100, pl_160, pl_240, pl_256, pl_300, pl_999, pl_1000, pl_1280, pl_9999, pl_10000, pu_neg, pu_nn, pu_le, pu_lt, pu_eq, pu_cl, pu_in, pu_g, pu_let, pu_bind, pu_m1, pu_add, pu_mul, Nat.not_lt_zero, if_false, if_true, Nat.zero_le, pu_d2, pu_d100, pu_em1, reduceIte, Nat.reduceEqDiff, Nat.reduceLT, Nat.reduceLeDiff, Nat.reduceAdd, Nat.reduceMul, Nat.reduceSub, not_true_eq_false, not_false_eq_true, and_true, true_and, and_false, false_and, or_true, true_or, or_false, false_or, Nat.lt_irrefl, Nat.le_refl, Nat.add_zero, Bool.false_eq_true, e1, k8]
      rw [if_pos c1]
    · rw [if_pos c1]
      exact u1.up (r := 6) _ (by omega) (by omega) (by omega)
  · refine ⟨ρ, ?_, ?_⟩
    · rw [if_neg c1]
      simp (disch := omega) only [Md_writes_j41, pl_0, pl_1, pl_2, pl_3, pl_4, pl_5, pl_6, pl_7, pl_8, pl_9, pl_10, pl_11, pl_12, pl_13, pl_14, pl_15, pl_16, pl_17, pl_18, pl_19, pl_20, pl_21, pl_30, pl_40, pl_50, pl_51, pl_60, pl_70, pl_71, pl_99, pl_100, pl_160, pl_240, pl_256, pl_300, pl_999, pl_1000, pl_1280, pl_9999, pl_10000, pu_neg, pu_nn, pu_le, pu_lt, pu_eq, pu_cl, pu_in, pu_g, pu_let, pu_bind, pu_m1, pu_add, pu_mul, Nat.not_lt_zero, if_false, if_true, Nat.zero_le, pu_d2, pu_d100, pu_em1, reduceIte, Nat.reduceEqDiff, Nat.reduceLT, Nat.reduceLeDiff, Nat.reduceAdd, Nat.reduceMul, Nat.reduceSub, not_true_eq_false, not_false_eq_true, and_true, true_and, and_false, false_and, or_true, true_or, or_false, false_or, Nat.lt_irrefl, Nat.le_refl, Nat.add_zero, Bool.false_eq_true, e1, k8]
      rw [if_neg c1]
    · rw [if_neg c1]
      exact u1
theorem md_writes (h : MdR σ T) (hI : IslI T) : ∃ τ, Md_writes σ = some (nI (senS T 8).1, τ) ∧ MdU σ τ (senS T 8).2 := by
  have hc := hI.1
  rw [sen_to hI rfl 8 hc]
  unfold Md_writes
  simp only [pl_0, pl_1, pl_2, pl_3, pl_4, pl_5, pl_6, pl_7, pl_8, pl_9, pl_10, pl_11, pl_12, pl_13, pl_14, pl_15, pl_16, pl_17, pl_18, pl_19, pl_20, pl_21, pl_30, pl_40, pl_50, pl_51, pl_60, pl_70, pl_71, pl_99, pl_100, pl_160, pl_240, pl_256, pl_300, pl_999, pl_1000, pl_1280, pl_9999, pl_10000]
  refine lp_Q (fun n i (a : nm_St) => Md_writes_l4 _ n (nI (senS T i).1) (nI i) a) (T 0 6) (fun i a => MdU σ a (senS T i).2) (fun r => ∃ τ, r = some (nI (senS T (T 0 6)).1, τ) ∧ MdU σ τ (senS T (T 0 6)).2) ?_ ?_ 400 0 σ (by omega) (MdU.rf h) (by omega)
  · intro n i a hi hp ih
    obtain ⟨hJ, h6⟩ := sen_I hI i
    have hR := hp.1
    generalize hs : senS T i = s at *
    have k0 : a.1 70 0 = nI (T 0 6) := by rw [hR.c, h6]
    have k6 := hR.a6 (show i < 8 by omega)
    have hp3 := (hJ.2.2.2.2 i (by omega)).2.2.2.2.2
    have kD := md_isDouble hR hJ (show i < 8 by omega)
    have kK := md_kinHome hR hJ (show i < 8 by omega)
    have hk8 := kinC_le s.2 i
    have hat : atB s.2 1 i = decide (s.2 6 i = 1) := by unfold atB; simp [h6, hi]
    have fin : mayB s.2 i = false → ∃ τ, Md_writes_l4 (fun (e13 : Int32) (s12 : nm_St) => some (e13, s12)) n (nI s.1) (nI (i + 1)) a = some (nI (senS T (T 0 6)).1, τ) ∧ MdU σ τ (senS T (T 0 6)).2 := by
      intro e
      have := ih a (by rw [sen_f (by rw [hs]; exact e), hs]; exact hp)
      rw [sen_f (by rw [hs]; exact e), hs] at this
      exact this
    have go : mayB s.2 i = true → ∃ τ, Md_writes_j41 (Md_writes_l4 (fun (e13 : Int32) (s12 : nm_St) => some (e13, s12)) n) (nI s.1) (nI i) a = some (nI (senS T (T 0 6)).1, τ) ∧ MdU σ τ (senS T (T 0 6)).2 := by
      intro e
      obtain ⟨ρ, e1, u1⟩ := ml_go (Md_writes_l4 (fun (e13 : Int32) (s12 : nm_St) => some (e13, s12)) n) hR hJ (c := s.1) (i := i) (by rw [h6]; exact hi)
      rw [e1]
      by_cases c1 : drN (s.2 0 11) 100 < s.2 0 8
      · rw [if_pos c1] at u1 ⊢
        have := ih ρ (by rw [sen_t (by rw [hs]; exact e) (by rw [hs]; exact c1), hs]; exact hp.tr u1)
        rw [sen_t (by rw [hs]; exact e) (by rw [hs]; exact c1), hs] at this
        exact this
      · rw [if_neg c1] at u1 ⊢
        have := ih ρ (by rw [sen_u (by rw [hs]; exact e) (by rw [hs]; exact c1), hs]; exact hp.tr u1)
        rw [sen_u (by rw [hs]; exact e) (by rw [hs]; exact c1), hs] at this
        exact this
    by_cases e1 : s.2 6 i = 1
    · have ha1 : atB s.2 1 i = true := by rw [hat]; simp [e1]
      cases e2 : dblB s.2 i with
      | true =>
        have e : mayB s.2 i = true := by unfold mayB; simp [ha1, e2]
        rw [e2] at kD
        have := go e
        simp (disch := omega) only [Md_writes_l4, pl_0, pl_1, pl_2, pl_3, pl_4, pl_5, pl_6, pl_7, pl_8, pl_9, pl_10, pl_11, pl_12, pl_13, pl_14, pl_15, pl_16, pl_17, pl_18, pl_19, pl_20, pl_21, pl_30, pl_40, pl_50, pl_51, pl_60, pl_70, pl_71, pl_99, pl_100, pl_160, pl_240, pl_256, pl_300, pl_999, pl_1000, pl_1280, pl_9999, pl_10000, pu_neg, pu_nn, pu_le, pu_lt, pu_eq, pu_cl, pu_in, pu_g, pu_let, pu_bind, pu_m1, pu_add, pu_mul, Nat.not_lt_zero, if_false, if_true, Nat.zero_le, pu_d2, pu_d100, pu_em1, reduceIte, Nat.reduceEqDiff, Nat.reduceLT, Nat.reduceLeDiff, Nat.reduceAdd, Nat.reduceMul, Nat.reduceSub, not_true_eq_false, not_false_eq_true, and_true, true_and, and_false, false_and, or_true, true_or, or_false, false_or, Nat.lt_irrefl, Nat.le_refl, Nat.add_zero, Bool.false_eq_true, k0, k6, kD, e1]
        rw [if_neg (by omega)]
        exact this
      | false =>
        rw [e2] at kD
        by_cases z : kinC s.2 i = 0
        · have e : mayB s.2 i = false := by unfold mayB; simp [e2, z]
          have := fin e
          simp (disch := omega) only [Md_writes_l4, pl_0, pl_1, pl_2, pl_3, pl_4, pl_5, pl_6, pl_7, pl_8, pl_9, pl_10, pl_11, pl_12, pl_13, pl_14, pl_15, pl_16, pl_17, pl_18, pl_19, pl_20, pl_21, pl_30, pl_40, pl_50, pl_51, pl_60, pl_70, pl_71, pl_99, pl_100, pl_160, pl_240, pl_256, pl_300, pl_999, pl_1000, pl_1280, pl_9999, pl_10000, pu_neg, pu_nn, pu_le, pu_lt, pu_eq, pu_cl, pu_in, pu_g, pu_let, pu_bind, pu_m1, pu_add, pu_mul, Nat.not_lt_zero, if_false, if_true, Nat.zero_le, pu_d2, pu_d100, pu_em1, reduceIte, Nat.reduceEqDiff, Nat.reduceLT, Nat.reduceLeDiff, Nat.reduceAdd, Nat.reduceMul, Nat.reduceSub, not_true_eq_false, not_false_eq_true, and_true, true_and, and_false, false_and, or_true, true_or, or_false, false_or, Nat.lt_irrefl, Nat.le_refl, Nat.add_zero, Bool.false_eq_true, k0, k6, kD, e1, kK]
          rw [if_neg (by omega), if_pos z]
          exact this
        · have e : mayB s.2 i = true := by unfold mayB; simp [ha1]; omega
          have := go e
          simp (disch := omega) only [Md_writes_l4, pl_0, pl_1, pl_2, pl_3, pl_4, pl_5, pl_6, pl_7, pl_8, pl_9, pl_10, pl_11, pl_12, pl_13, pl_14, pl_15, pl_16, pl_17, pl_18, pl_19, pl_20, pl_21, pl_30, pl_40, pl_50, pl_51, pl_60, pl_70, pl_71, pl_99, pl_100, pl_160, pl_240, pl_256, pl_300, pl_999, pl_1000, pl_1280, pl_9999, pl_10000, pu_neg, pu_nn, pu_le, pu_lt, pu_eq, pu_cl, pu_in, pu_g, pu_let, pu_bind, pu_m1, pu_add, pu_mul, Nat.not_lt_zero, if_false, if_true, Nat.zero_le, pu_d2, pu_d100, pu_em1, reduceIte, Nat.reduceEqDiff, Nat.reduceLT, Nat.reduceLeDiff, Nat.reduceAdd, Nat.reduceMul, Nat.reduceSub, not_true_eq_false, not_false_eq_true, and_true, true_and, and_false, false_and, or_true, true_or, or_false, false_or, Nat.lt_irrefl, Nat.le_refl, Nat.add_zero, Bool.false_eq_true, k0, k6, kD, e1, kK]
          rw [if_neg (by omega), if_neg z]
          exact this
    · have e : mayB s.2 i = false := by unfold mayB; rw [hat]; simp [e1]
      have := fin e
      simp (disch := omega) only [Md_writes_l4, pl_0, pl_1, pl_2, pl_3, pl_4, pl_5, pl_6, pl_7, pl_8, pl_9, pl_10, pl_11, pl_12, pl_13, pl_14, pl_15, pl_16, pl_17, pl_18, pl_19, pl_20, pl_21, pl_30, pl_40, pl_50, pl_51, pl_60, pl_70, pl_71, pl_99, pl_100, pl_160, pl_240, pl_256, pl_300, pl_999, pl_1000, pl_1280, pl_9999, pl_10000, pu_neg, pu_nn, pu_le, pu_lt, pu_eq, pu_cl, pu_in, pu_g, pu_let, pu_bind, pu_m1, pu_add, pu_mul, Nat.not_lt_zero, if_false, if_true, Nat.zero_le, pu_d2, pu_d100, pu_em1, reduceIte, Nat.reduceEqDiff, Nat.reduceLT, Nat.reduceLeDiff, Nat.reduceAdd, Nat.reduceMul, Nat.reduceSub, not_true_eq_false, not_false_eq_true, and_true, true_and, and_false, false_and, or_true, true_or, or_false, false_or, Nat.lt_irrefl, Nat.le_refl, Nat.add_zero, Bool.false_eq_true, k0, k6]
      rw [if_neg (by omega), if_neg e1]
      exact this
  · intro n a hp
    have k0 : a.1 70 0 = nI (T 0 6) := by rw [hp.1.c, (sen_I hI _).2]
    simp (disch := omega) only [Md_writes_l4, pl_0, pl_1, pl_2, pl_3, pl_4, pl_5, pl_6, pl_7, pl_8, pl_9, pl_10, pl_11, pl_12, pl_13, pl_14, pl_15, pl_16, pl_17, pl_18, pl_19, pl_20, pl_21, pl_30, pl_40, pl_50, pl_51, pl_60, pl_70, pl_71, pl_99, pl_100, pl_160, pl_240, pl_256, pl_300, pl_999, pl_1000, pl_1280, pl_9999, pl_10000, pu_neg, pu_nn, pu_le, pu_lt, pu_eq, pu_cl, pu_in, pu_g, pu_let, pu_bind, pu_m1, pu_add, pu_mul, Nat.not_lt_zero, if_false, if_true, Nat.zero_le, pu_d2, pu_d100, pu_em1, reduceIte, Nat.reduceEqDiff, Nat.reduceLT, Nat.reduceLeDiff, Nat.reduceAdd, Nat.reduceMul, Nat.reduceSub, not_true_eq_false, not_false_eq_true, and_true, true_and, and_false, false_and, or_true, true_or, or_false, false_or, Nat.lt_irrefl, Nat.le_refl, Nat.add_zero, Bool.false_eq_true, k0]
    exact ⟨_, rfl, hp⟩
end ISO
