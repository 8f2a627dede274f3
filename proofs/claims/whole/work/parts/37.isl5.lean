/-! kinds; a month -/
theorem ok_r1 {j v : Nat} (h : v ≤ 6) : upOK 1 j v := by simp [upOK, h]
theorem ok_r2 {j v : Nat} (h : v ≤ 9) : upOK 2 j v := by simp [upOK, h]
theorem ok_r3 {j v : Nat} (h : v ≤ 99) : upOK 3 j v := by simp [upOK, h]
theorem ok_r4 {j v : Nat} (h : v < 256) : upOK 4 j v := by simp [upOK, h]
theorem ok_r5 {j v : Nat} (h : v < 256) : upOK 5 j v := by simp [upOK, h]
theorem ok_r6 {j v : Nat} (h : v ≤ 3) : upOK 6 j v := by simp [upOK, h]
theorem ok_06 {v : Nat} (h : v ≤ 8) : upOK 0 6 v := by simp [upOK, h]
theorem ok_07 {v : Nat} (h1 : 1 ≤ v) (h : v ≤ 8) : upOK 0 7 v := by simp [upOK, h, h1]
theorem ok_08 {v : Nat} (h : v ≤ 99) : upOK 0 8 v := by simp [upOK, h]
theorem ok_09 {v : Nat} (h : v ≤ 9999) : upOK 0 9 v := by simp [upOK, h]
theorem ok_0a (v : Nat) : upOK 0 10 v := by simp [upOK]
theorem ok_0b (v : Nat) : upOK 0 11 v := by simp [upOK]
theorem cnt_t {f : Nat → Bool} {n : Nat} (h : f n = true) : cntB f (n + 1) = cntB f n + 1 := by unfold cntB; rw [if_pos h]; cases n <;> rfl
theorem cnt_f {f : Nat → Bool} {n : Nat} (h : f n = false) : cntB f (n + 1) = cntB f n := by
  show (if f n then cntB f n + 1 else cntB f n) = _
  rw [h]; rfl
theorem bts_t {f : Nat → Bool} {n : Nat} (h : f n = true) : bts f (n + 1) = bts f n + 2 ^ n := by rw [bts_succ, if_pos h]
theorem bts_f {f : Nat → Bool} {n : Nat} (h : f n = false) : bts f (n + 1) = bts f n := by rw [bts_succ, h]; rfl
def abN (k : Nat) : Nat := [0, 0, 0, 1, 0, 2, 4].getD k 0
theorem ab_at : ∀ k, k < 7 → (nm_tab 0).getD k (nI 0) = if k = 0 then -nI 1 else nI (abN k) := by decide +kernel
theorem ab_lt : ∀ k, k < 7 → abN k < 7 := by decide
def undN (k q : Nat) : Nat := if k = q then 1 else if k = 0 then 0 else if abN k = q then 1 else if abN k = 0 then 0 else if abN (abN k) = q then 1 else 0
section ISK
variable {σ : nm_St} {o : Nat} {T : is_T}
theorem nm_isKind {k : Nat} (hk : k < 7) : Nm_isKind (nI k) σ = some (nI 1, σ) := by
  unfold Nm_isKind
  simp (disch := omega) only [pl_0, pl_1, pl_2, pl_3, pl_4, pl_5, pl_6, pl_7, pl_8, pl_9, pl_10, pl_11, pl_12, pl_13, pl_14, pl_15, pl_16, pl_17, pl_18, pl_19, pl_20, pl_21, pl_30, pl_40, pl_50, pl_51, pl_60, pl_70, pl_71, pl_99, pl_100, pl_160, pl_240, pl_256, pl_300, pl_999, pl_1000, pl_1280, pl_9999, pl_10000, pu_neg, pu_nn, pu_le, pu_lt, pu_eq, pu_cl, pu_in, pu_g, pu_let, pu_bind, pu_m1, pu_add, pu_mul, Nat.not_lt_zero, if_false, if_true, Nat.zero_le, pu_d2, pu_d100, pu_em1, reduceIte, Nat.reduceEqDiff, Nat.reduceLT, Nat.reduceLeDiff, Nat.reduceAdd, Nat.reduceMul, Nat.reduceSub, not_true_eq_false, not_false_eq_true, and_true, true_and, and_false, false_and, or_true, true_or, or_false, false_or, Nat.lt_irrefl, Nat.le_refl, Nat.add_zero]
  rw [if_neg (by omega)]
theorem nm_kindAbove {k : Nat} (hk : k < 7) : Nm_kindAbove (nI k) σ = some (if k = 0 then -nI 1 else nI (abN k), σ) := by
  unfold Nm_kindAbove
  refine bind_of (nm_isKind hk) ?_
  simp (disch := omega) only [pl_0, pl_1, pl_2, pl_3, pl_4, pl_5, pl_6, pl_7, pl_8, pl_9, pl_10, pl_11, pl_12, pl_13, pl_14, pl_15, pl_16, pl_17, pl_18, pl_19, pl_20, pl_21, pl_30, pl_40, pl_50, pl_51, pl_60, pl_70, pl_71, pl_99, pl_100, pl_160, pl_240, pl_256, pl_300, pl_999, pl_1000, pl_1280, pl_9999, pl_10000, pu_neg, pu_nn, pu_le, pu_lt, pu_eq, pu_cl, pu_in, pu_g, pu_let, pu_bind, pu_m1, pu_add, pu_mul, Nat.not_lt_zero, if_false, if_true, Nat.zero_le, pu_d2, pu_d100, pu_em1, reduceIte, Nat.reduceEqDiff, Nat.reduceLT, Nat.reduceLeDiff, Nat.reduceAdd, Nat.reduceMul, Nat.reduceSub, not_true_eq_false, not_false_eq_true, and_true, true_and, and_false, false_and, or_true, true_or, or_false, false_or, Nat.lt_irrefl, Nat.le_refl, Nat.add_zero, show nm_tabN 0 = 7 from rfl]
  rw [ab_at k hk]
theorem under_s (K : nm_St → Option (Int32 × nm_St)) {k q i n : Nat} (hk : k < 7) (hq : q < 7) (hi : i < 7) : Nm_isUnder_l4 K (n + 1) (nI q) (nI k) (nI i) σ = if k = q then some (nI 1, σ) else Nm_isUnder_l4 K n (nI q) (if k = 0 then -nI 1 else nI (abN k)) (nI (i + 1)) σ := by
  simp (disch := omega) only [Nm_isUnder_l4, pl_0, pl_1, pl_2, pl_3, pl_4, pl_5, pl_6, pl_7, pl_8, pl_9, pl_10, pl_11, pl_12, pl_13, pl_14, pl_15, pl_16, pl_17, pl_18, pl_19, pl_20, pl_21, pl_30, pl_40, pl_50, pl_51, pl_60, pl_70, pl_71, pl_99, pl_100, pl_160, pl_240, pl_256, pl_300, pl_999, pl_1000, pl_1280, pl_9999, pl_10000, pu_neg, pu_nn, pu_le, pu_lt, pu_eq, pu_cl, pu_in, pu_g, pu_let, pu_bind, pu_m1, pu_add, pu_mul, Nat.not_lt_zero, if_false, if_true, Nat.zero_le, pu_d2, pu_d100, pu_em1, reduceIte, Nat.reduceEqDiff, Nat.reduceLT, Nat.reduceLeDiff, Nat.reduceAdd, Nat.reduceMul, Nat.reduceSub, not_true_eq_false, not_false_eq_true, and_true, true_and, and_false, false_and, or_true, true_or, or_false, false_or, Nat.lt_irrefl, Nat.le_refl, Nat.add_zero, nm_kindAbove hk]
  rw [if_neg (by omega)]
theorem under_e (K : nm_St → Option (Int32 × nm_St)) {q i n : Nat} (hi : i < 7) : Nm_isUnder_l4 K (n + 1) (nI q) (-nI 1) (nI i) σ = K σ := by
  simp (disch := omega) only [Nm_isUnder_l4, pl_0, pl_1, pl_2, pl_3, pl_4, pl_5, pl_6, pl_7, pl_8, pl_9, pl_10, pl_11, pl_12, pl_13, pl_14, pl_15, pl_16, pl_17, pl_18, pl_19, pl_20, pl_21, pl_30, pl_40, pl_50, pl_51, pl_60, pl_70, pl_71, pl_99, pl_100, pl_160, pl_240, pl_256, pl_300, pl_999, pl_1000, pl_1280, pl_9999, pl_10000, pu_neg, pu_nn, pu_le, pu_lt, pu_eq, pu_cl, pu_in, pu_g, pu_let, pu_bind, pu_m1, pu_add, pu_mul, Nat.not_lt_zero, if_false, if_true, Nat.zero_le, pu_d2, pu_d100, pu_em1, reduceIte, Nat.reduceEqDiff, Nat.reduceLT, Nat.reduceLeDiff, Nat.reduceAdd, Nat.reduceMul, Nat.reduceSub, not_true_eq_false, not_false_eq_true, and_true, true_and, and_false, false_and, or_true, true_or, or_false, false_or, Nat.lt_irrefl, Nat.le_refl, Nat.add_zero]
  rw [if_neg (by omega)]
theorem nm_isUnder {k q : Nat} (hk : k < 7) (hq : q < 7) : Nm_isUnder (nI k) (nI q) σ = some (nI (undN k q), σ) := by
  unfold Nm_isUnder undN
  rw [show (0 : Int32) = nI 0 from rfl, under_s _ hk hq (by omega)]
  by_cases e : k = q
  · rw [if_pos e, if_pos e]
  · rw [if_neg e, if_neg e]
    by_cases z : k = 0
    · rw [if_pos z, if_pos z, under_e _ (by omega)]
    · rw [if_neg z, if_neg z, under_s _ (ab_lt k hk) hq (by omega)]
      by_cases e2 : abN k = q
      · rw [if_pos e2, if_pos e2]
      · rw [if_neg e2, if_neg e2]
        by_cases z2 : abN k = 0
        · rw [if_pos z2, if_pos z2, under_e _ (by omega)]
        · rw [if_neg z2, if_neg z2, under_s _ (ab_lt _ (ab_lt k hk)) hq (by omega)]
          by_cases e3 : abN (abN k) = q
          · rw [if_pos e3, if_pos e3]
          · rw [if_neg e3, if_neg e3]
            have z3 : ∀ k, k < 7 → abN k ≠ 0 → abN (abN k) = 0 := by decide
            rw [if_pos (z3 k hk z2), under_e _ (by omega)]
def dblB (T : is_T) (m : Nat) : Bool := decide (T 1 m = 2) || decide (T 1 m = 5)
theorem und2 : ∀ k, k < 7 → undN k 2 = if (decide (k = 2) || decide (k = 5)) = true then 1 else 0 := by decide
theorem is_dbl (hI : IslI T) {m : Nat} (hm : m < 8) : Nm_isUnder (nI (T 1 m)) (nI 2) σ = some (nI (if dblB T m then 1 else 0), σ) := by
  have h2 := hI.2.2.2.2 m hm
  rw [nm_isUnder (by omega) (by omega), und2 _ (by omega)]
  rfl
/-- a month: those at 1 who are doubles come home and know -/
def pasT (T : is_T) (K : Nat) : Nat → is_T
  | 0 => T
  | n + 1 => if atB T 1 n && dblB T n then nm_up (nm_up (pasT T K n) 6 n 0) 4 n (T 4 n ||| K) else pasT T K n
theorem pas_t {T : is_T} {K n : Nat} (h : (atB T 1 n && dblB T n) = true) : pasT T K (n + 1) = nm_up (nm_up (pasT T K n) 6 n 0) 4 n (T 4 n ||| K) := if_pos h
theorem pas_f {T : is_T} {K n : Nat} (h : (atB T 1 n && dblB T n) = false) : pasT T K (n + 1) = pasT T K n := if_neg (by rw [h]; decide)
theorem pas_same {T : is_T} {K r j : Nat} : ∀ n, (n ≤ j ∨ (r ≠ 6 ∧ r ≠ 4)) → pasT T K n r j = T r j := by
  intro n
  induction n with
  | zero => intro _; rfl
  | succ n ih =>
    intro h
    cases e : (atB T 1 n && dblB T n) with
    | true =>
      rw [pas_t e, up_at, up_at, if_neg (by omega), if_neg (by omega)]
      exact ih (by omega)
    | false =>
      rw [pas_f e]
      exact ih (by omega)
theorem pas_I {T : is_T} (hI : IslI T) {K : Nat} (hK : K < 256) : ∀ n, n ≤ 8 → IslI (pasT T K n) := by
  intro n
  induction n with
  | zero => intro _; exact hI
  | succ n ih =>
    intro h
    cases e : (atB T 1 n && dblB T n) with
    | true =>
      rw [pas_t e]
      have h4 := (hI.2.2.2.2 n (by omega)).2.2.2.1
      have ho : T 4 n ||| K < 256 := Nat.or_lt_two_pow (n := 8) h4 hK
      exact ((ih (by omega)).up (ok_r6 (by omega))).up (ok_r4 ho)
    | false =>
      rw [pas_f e]
      exact ih (by omega)
theorem pas_at1 {T : is_T} {K n q : Nat} : atB (pasT T K n) q n = atB T q n := by
  unfold atB
  rw [pas_same n (by omega), pas_same n (by omega)]
theorem pas_dbl {T : is_T} {K n m : Nat} : dblB (pasT T K n) m = dblB T m := by
  unfold dblB
  rw [pas_same n (by omega)]
def monT (T : is_T) : is_T := nm_up (nm_up (pasT T (orF T (atB T 1) 8) 8) 0 8 (T 0 8 - 1)) 0 10 (T 0 10 + 1)
def monC (T : is_T) : Nat := cntB (fun m => atB T 1 m && dblB T m) 8
theorem mon_I {T : is_T} (hI : IslI T) : IslI (monT T) := by
  have h1 := hI.2.2.1
  exact ((pas_I hI (orF_lt hI _ 8 (by omega)) 8 (by omega)).up (ok_08 (by omega))).up (ok_0a _)
theorem mon_6 (T : is_T) : monT T 0 6 = T 0 6 := by
  unfold monT
  rw [up_at, up_at, if_neg (by omega), if_neg (by omega), pas_same 8 (by omega)]
theorem is_passMonth (h : IslR σ o T) (hI : IslI T) : ∃ τ, Is_passMonth o σ = some (nI (monC T), τ) ∧ IslU σ o τ (monT T) := by
  have hK := orF_lt hI (atB T 1) 8 (by omega)
  have h8 := hI.2.2.1
  unfold Is_passMonth
  rw [is_knownAbroad h hI]
  simp only [pu_bind, pl_0]
  generalize hk : orF T (atB T 1) 8 = K at hK
  refine lp_Q (fun n i (a : nm_St) => Is_passMonth_l9 o _ n (nI K) (nI (cntB (fun m => atB T 1 m && dblB T m) i)) (nI i) a) 8 (fun i a => IslU σ o a (pasT T K i)) (fun r => ∃ τ, r = some (nI (monC T), τ) ∧ IslU σ o τ (monT T)) ?_ ?_ 400 0 σ (by omega) (IslU.rf h) (by omega)
  · intro n i a hi hp ih
    have hJ := pas_I hI hK i (by omega)
    have hR := hp.1
    have k1 : a.1 (o + 1) i = nI (T 1 i) := by rw [hR.a 1 hi, pas_same i (by omega)]
    have k4 : a.1 (o + 4) i = nI (T 4 i) := by rw [hR.a 4 hi, pas_same i (by omega)]
    have kA := is_isAt hR hJ hi (show 1 ≤ 3 by omega)
    rw [pas_at1] at kA
    cases e1 : atB T 1 i with
    | false =>
      have e : (fun m => atB T 1 m && dblB T m) i = false := by simp [e1]
      have hs := ih a (by rw [pas_f e]; exact hp)
      rw [cnt_f e] at hs
      rw [e1] at kA
      simp (disch := omega) only [Is_passMonth_l9, pl_0, pl_1, pl_2, pl_3, pl_4, pl_5, pl_6, pl_7, pl_8, pl_9, pl_10, pl_11, pl_12, pl_13, pl_14, pl_15, pl_16, pl_17, pl_18, pl_19, pl_20, pl_21, pl_30, pl_40, pl_50, pl_51, pl_60, pl_70, pl_71, pl_99, pl_100, pl_160, pl_240, pl_256, pl_300, pl_999, pl_1000, pl_1280, pl_9999, pl_10000, pu_neg, pu_nn, pu_le, pu_lt, pu_eq, pu_cl, pu_in, pu_g, pu_let, pu_bind, pu_m1, pu_add, pu_mul, Nat.not_lt_zero, if_false, if_true, Nat.zero_le, pu_d2, pu_d100, pu_em1, reduceIte, Nat.reduceEqDiff, Nat.reduceLT, Nat.reduceLeDiff, Nat.reduceAdd, Nat.reduceMul, Nat.reduceSub, not_true_eq_false, not_false_eq_true, and_true, true_and, and_false, false_and, or_true, true_or, or_false, false_or, Nat.lt_irrefl, Nat.le_refl, Nat.add_zero, kA]
      rw [if_neg (by omega)]
      exact hs
    | true =>
      rw [e1] at kA
      have hm : i < T 0 6 := at_lt e1
      have kD := is_dbl (σ := a) hI hi
      cases e2 : dblB T i with
      | false =>
        have e : (fun m => atB T 1 m && dblB T m) i = false := by simp [e2]
        have hs := ih a (by rw [pas_f e]; exact hp)
        rw [cnt_f e] at hs
        rw [e2] at kD
        simp (disch := omega) only [Is_passMonth_l9, pl_0, pl_1, pl_2, pl_3, pl_4, pl_5, pl_6, pl_7, pl_8, pl_9, pl_10, pl_11, pl_12, pl_13, pl_14, pl_15, pl_16, pl_17, pl_18, pl_19, pl_20, pl_21, pl_30, pl_40, pl_50, pl_51, pl_60, pl_70, pl_71, pl_99, pl_100, pl_160, pl_240, pl_256, pl_300, pl_999, pl_1000, pl_1280, pl_9999, pl_10000, pu_neg, pu_nn, pu_le, pu_lt, pu_eq, pu_cl, pu_in, pu_g, pu_let, pu_bind, pu_m1, pu_add, pu_mul, Nat.not_lt_zero, if_false, if_true, Nat.zero_le, pu_d2, pu_d100, pu_em1, reduceIte, Nat.reduceEqDiff, Nat.reduceLT, Nat.reduceLeDiff, Nat.reduceAdd, Nat.reduceMul, Nat.reduceSub, not_true_eq_false, not_false_eq_true, and_true, true_and, and_false, false_and, or_true, true_or, or_false, false_or, Nat.lt_irrefl, Nat.le_refl, Nat.add_zero, kA, k1, kD]
        rw [if_neg (by omega)]
        exact hs
      | true =>
        have e : (fun m => atB T 1 m && dblB T m) i = true := by simp [e1, e2]
        have hm2 : i < pasT T K i 0 6 := by rw [pas_same i (by omega)]; exact hm
        have hs := ih (nm_pI (nm_pI a (o + 6) i (nI 0)) (o + 4) i (nI (T 4 i ||| K))) (by rw [pas_t e]; exact (hp.up 0 (by omega) (by omega) hi).up _ (by omega) (by omega) hi)
        rw [cnt_t e] at hs
        rw [e2] at kD
        have kM := up_moveTo hR hJ hm2 (nI 0)
        have k44 : (nm_pI a (o + 6) i (nI 0)).1 (o + 4) i = nI (T 4 i) := by
          rw [← k4]
          exact pI_ne _ _ (by omega)
        simp (disch := omega) only [Is_passMonth_l9, pl_0, pl_1, pl_2, pl_3, pl_4, pl_5, pl_6, pl_7, pl_8, pl_9, pl_10, pl_11, pl_12, pl_13, pl_14, pl_15, pl_16, pl_17, pl_18, pl_19, pl_20, pl_21, pl_30, pl_40, pl_50, pl_51, pl_60, pl_70, pl_71, pl_99, pl_100, pl_160, pl_240, pl_256, pl_300, pl_999, pl_1000, pl_1280, pl_9999, pl_10000, pu_neg, pu_nn, pu_le, pu_lt, pu_eq, pu_cl, pu_in, pu_g, pu_let, pu_bind, pu_m1, pu_add, pu_mul, Nat.not_lt_zero, if_false, if_true, Nat.zero_le, pu_d2, pu_d100, pu_em1, reduceIte, Nat.reduceEqDiff, Nat.reduceLT, Nat.reduceLeDiff, Nat.reduceAdd, Nat.reduceMul, Nat.reduceSub, not_true_eq_false, not_false_eq_true, and_true, true_and, and_false, false_and, or_true, true_or, or_false, false_or, Nat.lt_irrefl, Nat.le_refl, Nat.add_zero, kA, k1, kD, kM, k44, fa_or]
        rw [if_neg (by omega)]
        exact hs
  · intro n a hp
    have hR := hp.1
    have k8 : a.1 o 8 = nI (T 0 8) := by rw [hR.f, pas_same 8 (by omega)]
    have k10 : a.1 o 10 = nI (T 0 10) := by rw [hR.mo, pas_same 8 (by omega)]
    have k10' : (nm_pI a o 8 (nI (T 0 8 - 1))).1 o 10 = nI (T 0 10) := by
      rw [← k10]
      simp [nm_pI, nm_up]
    simp (disch := omega) only [Is_passMonth_l9, pl_0, pl_1, pl_2, pl_3, pl_4, pl_5, pl_6, pl_7, pl_8, pl_9, pl_10, pl_11, pl_12, pl_13, pl_14, pl_15, pl_16, pl_17, pl_18, pl_19, pl_20, pl_21, pl_30, pl_40, pl_50, pl_51, pl_60, pl_70, pl_71, pl_99, pl_100, pl_160, pl_240, pl_256, pl_300, pl_999, pl_1000, pl_1280, pl_9999, pl_10000, pu_neg, pu_nn, pu_le, pu_lt, pu_eq, pu_cl, pu_in, pu_g, pu_let, pu_bind, pu_m1, pu_add, pu_mul, Nat.not_lt_zero, if_false, if_true, Nat.zero_le, pu_d2, pu_d100, pu_em1, reduceIte, Nat.reduceEqDiff, Nat.reduceLT, Nat.reduceLeDiff, Nat.reduceAdd, Nat.reduceMul, Nat.reduceSub, not_true_eq_false, not_false_eq_true, and_true, true_and, and_false, false_and, or_true, true_or, or_false, false_or, Nat.lt_irrefl, Nat.le_refl, Nat.add_zero, k8, pu_max, k10']
    refine ⟨_, rfl, ?_⟩
    unfold monT
    rw [hk]
    exact (hp.up0 _ (by omega) (by omega)).up0 _ (by omega) (by omega)
end ISK
