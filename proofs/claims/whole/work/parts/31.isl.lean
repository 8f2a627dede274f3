/-! THE ISLAND as numbers: T 0 6 how many makers, T 0 7 parts, T 0 8 fear, T 0 9 purse, T 0 10 months, T 0 11 seed; T 1 kinds, T 2 a, T 3 wants, T 4 known, T 5 kin, T 6 places -/
abbrev is_T : Type := Nat → Nat → Nat
def IslR (σ : nm_St) (o : Nat) (T : is_T) : Prop := (∀ r j, 1 ≤ r → r ≤ 6 → j < 8 → σ.1 (o + r) j = nI (T r j)) ∧ ∀ j, 6 ≤ j → j < 12 → σ.1 o j = nI (T 0 j)
def MdR (σ : nm_St) (T : is_T) : Prop := (∀ r j, 1 ≤ r → r ≤ 6 → j < 8 → σ.1 (71 + r) j = nI (T r j)) ∧ ∀ j, j < 6 → σ.1 70 j = nI (T 0 (6 + j))
def IslI (T : is_T) : Prop := T 0 6 ≤ 8 ∧ (1 ≤ T 0 7 ∧ T 0 7 ≤ 8) ∧ T 0 8 ≤ 99 ∧ T 0 9 ≤ 9999 ∧ ∀ m, m < 8 → T 1 m ≤ 6 ∧ T 2 m ≤ 9 ∧ T 3 m ≤ 99 ∧ T 4 m < 256 ∧ T 5 m < 256 ∧ T 6 m ≤ 3
section ISA
variable {σ : nm_St} {o : Nat} {T : is_T}
theorem IslR.a (h : IslR σ o T) (r : Nat) {j : Nat} (hj : j < 8) (h1 : 1 ≤ r := by omega) (h2 : r ≤ 6 := by omega) : σ.1 (o + r) j = nI (T r j) := h.1 r j h1 h2 hj
theorem IslR.c (h : IslR σ o T) : σ.1 o 6 = nI (T 0 6) := h.2 6 (by omega) (by omega)
theorem IslR.p (h : IslR σ o T) : σ.1 o 7 = nI (T 0 7) := h.2 7 (by omega) (by omega)
theorem IslR.f (h : IslR σ o T) : σ.1 o 8 = nI (T 0 8) := h.2 8 (by omega) (by omega)
theorem IslR.q (h : IslR σ o T) : σ.1 o 9 = nI (T 0 9) := h.2 9 (by omega) (by omega)
theorem IslR.mo (h : IslR σ o T) : σ.1 o 10 = nI (T 0 10) := h.2 10 (by omega) (by omega)
theorem IslR.se (h : IslR σ o T) : σ.1 o 11 = nI (T 0 11) := h.2 11 (by omega) (by omega)
theorem MdR.a (h : MdR σ T) (r : Nat) {j : Nat} (hj : j < 8) (h1 : 1 ≤ r := by omega) (h2 : r ≤ 6 := by omega) : σ.1 (71 + r) j = nI (T r j) := h.1 r j h1 h2 hj
/-- a maker, or none -/
theorem is_ix (x : Int32) (hI : IslI T) : x < 0 ∨ nI (T 0 6) ≤ x ∨ ∃ m : Nat, m < T 0 6 ∧ x = nI m := pu_ix x _ (by have := hI.1; omega)
theorem is_isMaker_v (h : IslR σ o T) (hI : IslI T) {m : Nat} (hm : m < T 0 6) : Is_isMaker o (nI m) σ = some (nI 1, σ) := by
  have hc := hI.1
  unfold Is_isMaker
  simp (disch := omega) only [pl_0, pl_1, pl_2, pl_3, pl_4, pl_5, pl_6, pl_7, pl_8, pl_9, pl_10, pl_11, pl_12, pl_13, pl_14, pl_15, pl_16, pl_17, pl_18, pl_19, pl_20, pl_21, pl_30, pl_40, pl_50, pl_51, pl_60, pl_70, pl_71, pl_99, pl_100, pl_160, pl_240, pl_256, pl_300, pl_999, pl_1000, pl_1280, pl_9999, pl_10000, pu_neg, pu_nn, pu_le, pu_lt, pu_eq, pu_cl, pu_in, pu_g, pu_let, pu_bind, pu_m1, pu_add, pu_mul, Nat.not_lt_zero, if_false, if_true, Nat.zero_le, pu_d2, pu_d100, h.c]
  rw [if_neg (by omega), if_neg (by omega)]
theorem is_isMaker_n (h : IslR σ o T) (hI : IslI T) {x : Int32} (hx : x < 0 ∨ nI (T 0 6) ≤ x) : Is_isMaker o x σ = some (nI 0, σ) := by
  unfold Is_isMaker
  rw [h.c]
  by_cases h1 : x < 0
  · rw [if_pos h1]; rfl
  · rw [if_neg h1, if_pos (hx.resolve_left h1)]; rfl
theorem is_isAt_v (h : IslR σ o T) (hI : IslI T) {m q : Nat} (hm : m < T 0 6) (hq : q ≤ 3) : Is_isAt o (nI m) (nI q) σ = some (nI (if T 6 m = q then 1 else 0), σ) := by
  have hc := hI.1
  have hp := (hI.2.2.2.2 m (by omega)).2.2.2.2.2
  unfold Is_isAt
  simp (disch := omega) only [pl_0, pl_1, pl_2, pl_3, pl_4, pl_5, pl_6, pl_7, pl_8, pl_9, pl_10, pl_11, pl_12, pl_13, pl_14, pl_15, pl_16, pl_17, pl_18, pl_19, pl_20, pl_21, pl_30, pl_40, pl_50, pl_51, pl_60, pl_70, pl_71, pl_99, pl_100, pl_160, pl_240, pl_256, pl_300, pl_999, pl_1000, pl_1280, pl_9999, pl_10000, pu_neg, pu_nn, pu_le, pu_lt, pu_eq, pu_cl, pu_in, pu_g, pu_let, pu_bind, pu_m1, pu_add, pu_mul, Nat.not_lt_zero, if_false, if_true, Nat.zero_le, pu_d2, pu_d100, h.c]
  rw [if_neg (by omega), if_neg (by omega), h.a 6 (by omega)]
  simp (disch := omega) only [pu_eq]
  by_cases e : T 6 m = q
  · rw [if_pos e, if_pos e]
  · rw [if_neg e, if_neg e]
theorem is_isAt_n (h : IslR σ o T) {x y : Int32} (hx : x < 0 ∨ nI (T 0 6) ≤ x) : Is_isAt o x y σ = some (nI 0, σ) := by
  unfold Is_isAt
  rw [h.c]
  by_cases h1 : x < 0
  · rw [if_pos h1]; rfl
  · rw [if_neg h1, if_pos (hx.resolve_left h1)]; rfl
/-- whether maker m is there, and at q -/
def atB (T : is_T) (q m : Nat) : Bool := decide (m < T 0 6) && decide (T 6 m = q)
theorem is_isAt (h : IslR σ o T) (hI : IslI T) {m q : Nat} (hm : m < 8) (hq : q ≤ 3) : Is_isAt o (nI m) (nI q) σ = some (nI (if atB T q m then 1 else 0), σ) := by
  have hc := hI.1
  by_cases hl : m < T 0 6
  · rw [is_isAt_v h hI hl hq]
    unfold atB
    simp [hl]
  · rw [is_isAt_n h (Or.inr (nI_le (by omega) (by omega)))]
    unfold atB
    simp [hl]
theorem is_thoseAt (h : IslR σ o T) (hI : IslI T) {q : Nat} (hq : q ≤ 3) : Is_thoseAt o (nI q) σ = some (nI (bts (atB T q) 8), σ) := by
  unfold Is_thoseAt
  refine (lp_fd (fun n i (a : Nat) => Is_thoseAt_l4 o (fun (e6 : Int32) (s5 : nm_St) => some (e6, s5)) n (nI q) (nI a) (nI i) σ) (fun a => some (nI a, σ)) (fun i a => if atB T q i then a + 2 ^ i else a) 8 (fun i a => a = bts (atB T q) i) ?_ ?_ ?_ 0 rfl 400 (by omega)).trans ?_
  · intro n i a hi ha
    have hl := bts_lt (atB T q) i
    rw [← ha] at hl
    simp (disch := omega) only [Is_thoseAt_l4, pl_0, pl_1, pl_2, pl_3, pl_4, pl_5, pl_6, pl_7, pl_8, pl_9, pl_10, pl_11, pl_12, pl_13, pl_14, pl_15, pl_16, pl_17, pl_18, pl_19, pl_20, pl_21, pl_30, pl_40, pl_50, pl_51, pl_60, pl_70, pl_71, pl_99, pl_100, pl_160, pl_240, pl_256, pl_300, pl_999, pl_1000, pl_1280, pl_9999, pl_10000, pu_neg, pu_nn, pu_le, pu_lt, pu_eq, pu_cl, pu_in, pu_g, pu_let, pu_bind, pu_m1, pu_add, pu_mul, Nat.not_lt_zero, if_false, if_true, Nat.zero_le, pu_d2, pu_d100, is_isAt h hI hi hq, pu_shl, fa_or, pu_orbit hl]
    rw [if_neg (by omega)]
    by_cases e : atB T q i = true
    · simp only [e, if_true]
      rfl
    · simp only [e, if_false]
      rfl
  · intro n a ha
    simp (disch := omega) only [Is_thoseAt_l4, pl_0, pl_1, pl_2, pl_3, pl_4, pl_5, pl_6, pl_7, pl_8, pl_9, pl_10, pl_11, pl_12, pl_13, pl_14, pl_15, pl_16, pl_17, pl_18, pl_19, pl_20, pl_21, pl_30, pl_40, pl_50, pl_51, pl_60, pl_70, pl_71, pl_99, pl_100, pl_160, pl_240, pl_256, pl_300, pl_999, pl_1000, pl_1280, pl_9999, pl_10000, pu_neg, pu_nn, pu_le, pu_lt, pu_eq, pu_cl, pu_in, pu_g, pu_let, pu_bind, pu_m1, pu_add, pu_mul, Nat.not_lt_zero, if_false, if_true, Nat.zero_le, pu_d2, pu_d100]
    rw [if_pos (by omega)]
  · intro i a hi ha
    rw [ha]
    rfl
  · have e : ∀ n, fd (fun i a => if atB T q i then a + 2 ^ i else a) 0 n = bts (atB T q) n := by
      intro n
      induction n with
      | zero => rfl
      | succ n ih => rw [fd_succ, ih]; rfl
    rw [e]
end ISA
