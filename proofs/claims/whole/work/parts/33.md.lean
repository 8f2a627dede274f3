/-! the model's own reading of the island -/
section MDA
variable {σ : nm_St} {T : is_T}
theorem MdR.c (h : MdR σ T) : σ.1 70 0 = nI (T 0 6) := h.2 0 (by omega)
theorem MdR.p (h : MdR σ T) : σ.1 70 1 = nI (T 0 7) := h.2 1 (by omega)
theorem MdR.f (h : MdR σ T) : σ.1 70 2 = nI (T 0 8) := h.2 2 (by omega)
theorem MdR.q (h : MdR σ T) : σ.1 70 3 = nI (T 0 9) := h.2 3 (by omega)
theorem MdR.mo (h : MdR σ T) : σ.1 70 4 = nI (T 0 10) := h.2 4 (by omega)
theorem MdR.se (h : MdR σ T) : σ.1 70 5 = nI (T 0 11) := h.2 5 (by omega)
theorem MdR.a1 (h : MdR σ T) {j : Nat} (hj : j < 8) : σ.1 72 j = nI (T 1 j) := h.1 1 j (by omega) (by omega) hj
theorem MdR.a2 (h : MdR σ T) {j : Nat} (hj : j < 8) : σ.1 73 j = nI (T 2 j) := h.1 2 j (by omega) (by omega) hj
theorem MdR.a3 (h : MdR σ T) {j : Nat} (hj : j < 8) : σ.1 74 j = nI (T 3 j) := h.1 3 j (by omega) (by omega) hj
theorem MdR.a4 (h : MdR σ T) {j : Nat} (hj : j < 8) : σ.1 75 j = nI (T 4 j) := h.1 4 j (by omega) (by omega) hj
theorem MdR.a5 (h : MdR σ T) {j : Nat} (hj : j < 8) : σ.1 76 j = nI (T 5 j) := h.1 5 j (by omega) (by omega) hj
theorem MdR.a6 (h : MdR σ T) {j : Nat} (hj : j < 8) : σ.1 77 j = nI (T 6 j) := h.1 6 j (by omega) (by omega) hj
theorem pu_smod : ∀ n, n < 32 → ((nI n &&& 31).toBitVec.smod 32).toNat = n := by decide +kernel
theorem pu_shr {a m : Nat} (ha : a < 2147483648) (hm : m < 31) : nI a >>> (nI m &&& 31) = nI (a / 2 ^ m) := pk_shrN ha _ m (pu_smod m (by omega))
theorem pu_and1 (a : Nat) : nI a &&& nI 1 = nI (a % 2) := by rw [fa_and, Nat.and_one_is_mod]
theorem pu_tb {a m : Nat} : a / 2 ^ m % 2 = if a.testBit m then 1 else 0 := by
  rw [Nat.testBit_eq_decide_div_mod_eq]
  by_cases h : a / 2 ^ m % 2 = 1
  · rw [h]; rfl
  · have : a / 2 ^ m % 2 = 0 := by omega
    rw [this]; rfl
theorem md_has {a m : Nat} (ha : a < 2147483648) (hm : m < 31) : Md_has (nI a) (nI m) σ = some (nI (if a.testBit m then 1 else 0), σ) := by
  unfold Md_has
  simp (disch := omega) only [pl_0, pl_1, pl_2, pl_3, pl_4, pl_5, pl_6, pl_7, pl_8, pl_9, pl_10, pl_11, pl_12, pl_13, pl_14, pl_15, pl_16, pl_17, pl_18, pl_19, pl_20, pl_21, pl_30, pl_40, pl_50, pl_51, pl_60, pl_70, pl_71, pl_99, pl_100, pl_160, pl_240, pl_256, pl_300, pl_999, pl_1000, pl_1280, pl_9999, pl_10000, pu_neg, pu_nn, pu_le, pu_lt, pu_eq, pu_cl, pu_in, pu_g, pu_let, pu_bind, pu_m1, pu_add, pu_mul, Nat.not_lt_zero, if_false, if_true, Nat.zero_le, pu_d2, pu_d100, pu_shr, pu_and1, pu_tb]
  by_cases e : a.testBit m = true <;> simp [e, pu_10, show (nI 0 = nI 1) = False from eq_false (by decide)]
theorem md_isMaker_v (h : MdR σ T) (hI : IslI T) {m : Nat} (hm : m < T 0 6) : Md_isMaker (nI m) σ = some (nI 1, σ) := by
  have hc := hI.1
  unfold Md_isMaker
  simp (disch := omega) only [pl_0, pl_1, pl_2, pl_3, pl_4, pl_5, pl_6, pl_7, pl_8, pl_9, pl_10, pl_11, pl_12, pl_13, pl_14, pl_15, pl_16, pl_17, pl_18, pl_19, pl_20, pl_21, pl_30, pl_40, pl_50, pl_51, pl_60, pl_70, pl_71, pl_99, pl_100, pl_160, pl_240, pl_256, pl_300, pl_999, pl_1000, pl_1280, pl_9999, pl_10000, pu_neg, pu_nn, pu_le, pu_lt, pu_eq, pu_cl, pu_in, pu_g, pu_let, pu_bind, pu_m1, pu_add, pu_mul, Nat.not_lt_zero, if_false, if_true, Nat.zero_le, pu_d2, pu_d100, h.c]
  rw [if_neg (by omega)]
theorem md_isMaker_n (h : MdR σ T) {x : Int32} (hx : x < 0 ∨ nI (T 0 6) ≤ x) : Md_isMaker x σ = some (nI 0, σ) := by
  unfold Md_isMaker
  rw [h.c]
  by_cases h1 : x < 0
  · rw [if_pos h1]; rfl
  · rw [if_neg h1, if_pos (hx.resolve_left h1)]; rfl
theorem md_kinHome (h : MdR σ T) (hI : IslI T) {m : Nat} (hm : m < 8) : Md_kinHome (nI m) σ = some (nI (kinC T m), σ) := by
  have hc := hI.1
  have hk := (hI.2.2.2.2 m hm).2.2.2.2.1
  unfold Md_kinHome
  refine (lp_fd (fun n i (a : Nat) => Md_kinHome_l4 (fun (e6 : Int32) (s5 : nm_St) => some (e6, s5)) n (nI m) (nI a) (nI i) σ) (fun a => some (nI a, σ)) (fun i a => if (T 5 m).testBit i && decide (T 6 i = 0) then a + 1 else a) (T 0 6) (fun _ _ => True) ?_ ?_ (fun _ _ _ _ => trivial) 0 trivial 400 (by omega)).trans ?_
  · intro n i a hi ha
    have h6 := (hI.2.2.2.2 i (by omega)).2.2.2.2.2
    simp (disch := omega) only [Md_kinHome_l4, pl_0, pl_1, pl_2, pl_3, pl_4, pl_5, pl_6, pl_7, pl_8, pl_9, pl_10, pl_11, pl_12, pl_13, pl_14, pl_15, pl_16, pl_17, pl_18, pl_19, pl_20, pl_21, pl_30, pl_40, pl_50, pl_51, pl_60, pl_70, pl_71, pl_99, pl_100, pl_160, pl_240, pl_256, pl_300, pl_999, pl_1000, pl_1280, pl_9999, pl_10000, pu_neg, pu_nn, pu_le, pu_lt, pu_eq, pu_cl, pu_in, pu_g, pu_let, pu_bind, pu_m1, pu_add, pu_mul, Nat.not_lt_zero, if_false, if_true, Nat.zero_le, pu_d2, pu_d100, h.c, h.a5, h.a6, md_has]
    rw [if_neg (by omega)]
    by_cases e : (T 5 m).testBit i = true <;> by_cases e2 : T 6 i = 0 <;> simp [e, e2, pu_10]
  · intro n a ha
    simp (disch := omega) only [Md_kinHome_l4, pl_0, pl_1, pl_2, pl_3, pl_4, pl_5, pl_6, pl_7, pl_8, pl_9, pl_10, pl_11, pl_12, pl_13, pl_14, pl_15, pl_16, pl_17, pl_18, pl_19, pl_20, pl_21, pl_30, pl_40, pl_50, pl_51, pl_60, pl_70, pl_71, pl_99, pl_100, pl_160, pl_240, pl_256, pl_300, pl_999, pl_1000, pl_1280, pl_9999, pl_10000, pu_neg, pu_nn, pu_le, pu_lt, pu_eq, pu_cl, pu_in, pu_g, pu_let, pu_bind, pu_m1, pu_add, pu_mul, Nat.not_lt_zero, if_false, if_true, Nat.zero_le, pu_d2, pu_d100, h.c]
    rw [if_pos (by omega)]
  · rw [fd_cnt (fun i => (T 5 m).testBit i && decide (T 6 i = 0))]
    have e : kinC T m = cntB (fun i => (T 5 m).testBit i && decide (T 6 i = 0)) (T 0 6) := by
      unfold kinC
      rw [cntB_to (c := T 0 6) 8 hc (fun i hi => by simp [atB, show ¬ i < T 0 6 by omega])]
      exact cntB_congr _ (fun i hi => by simp [atB, hi])
    rw [e]
theorem md_less (h : MdR σ T) (hI : IslI T) {m : Nat} (hm : m < 8) : Md_less (nI m) σ = some (nI (T 3 m - T 2 m), σ) := by
  have h2 := hI.2.2.2.2 m hm
  unfold Md_less
  simp (disch := omega) only [pl_0, pl_1, pl_2, pl_3, pl_4, pl_5, pl_6, pl_7, pl_8, pl_9, pl_10, pl_11, pl_12, pl_13, pl_14, pl_15, pl_16, pl_17, pl_18, pl_19, pl_20, pl_21, pl_30, pl_40, pl_50, pl_51, pl_60, pl_70, pl_71, pl_99, pl_100, pl_160, pl_240, pl_256, pl_300, pl_999, pl_1000, pl_1280, pl_9999, pl_10000, pu_neg, pu_nn, pu_le, pu_lt, pu_eq, pu_cl, pu_in, pu_g, pu_let, pu_bind, pu_m1, pu_add, pu_mul, Nat.not_lt_zero, if_false, if_true, Nat.zero_le, pu_d2, pu_d100, h.a2, h.a3]
  by_cases e : T 3 m ≤ T 2 m
  · rw [if_pos e, show T 3 m - T 2 m = 0 by omega]
  · rw [if_neg e, pk_sub (by omega)]
theorem md_price (h : MdR σ T) (hI : IslI T) {m : Nat} (hm : m < 8) : Md_price (nI m) σ = some (nI (price T m), σ) := by
  have h2 := hI.2.2.2.2 m hm
  have h3 := hI.2.2.1
  unfold Md_price price
  simp (disch := omega) only [pl_0, pl_1, pl_2, pl_3, pl_4, pl_5, pl_6, pl_7, pl_8, pl_9, pl_10, pl_11, pl_12, pl_13, pl_14, pl_15, pl_16, pl_17, pl_18, pl_19, pl_20, pl_21, pl_30, pl_40, pl_50, pl_51, pl_60, pl_70, pl_71, pl_99, pl_100, pl_160, pl_240, pl_256, pl_300, pl_999, pl_1000, pl_1280, pl_9999, pl_10000, pu_neg, pu_nn, pu_le, pu_lt, pu_eq, pu_cl, pu_in, pu_g, pu_let, pu_bind, pu_m1, pu_add, pu_mul, Nat.not_lt_zero, if_false, if_true, Nat.zero_le, pu_d2, pu_d100, md_less h hI hm, h.a1, h.a2, h.a3, h.f, md_kinHome h hI hm, pk_div]
  repeat' split
  all_goals first | rfl | omega
theorem md_those (h : MdR σ T) (hI : IslI T) {q : Nat} (hq : q ≤ 3) : Md_those (nI q) σ = some (nI (bts (atB T q) 8), σ) := by
  have hc := hI.1
  unfold Md_those
  refine (lp_fd (fun n i (a : Nat) => Md_those_l4 (fun (e6 : Int32) (s5 : nm_St) => some (e6, s5)) n (nI q) (nI a) (nI i) σ) (fun a => some (nI a, σ)) (fun i a => if decide (T 6 i = q) then a + 2 ^ i else a) (T 0 6) (fun i a => a = bts (fun i => decide (T 6 i = q)) i) ?_ ?_ ?_ 0 rfl 400 (by omega)).trans ?_
  · intro n i a hi ha
    have h6 := (hI.2.2.2.2 i (by omega)).2.2.2.2.2
    have hl := bts_lt (fun i => decide (T 6 i = q)) i
    rw [← ha] at hl
    simp (disch := omega) only [Md_those_l4, pl_0, pl_1, pl_2, pl_3, pl_4, pl_5, pl_6, pl_7, pl_8, pl_9, pl_10, pl_11, pl_12, pl_13, pl_14, pl_15, pl_16, pl_17, pl_18, pl_19, pl_20, pl_21, pl_30, pl_40, pl_50, pl_51, pl_60, pl_70, pl_71, pl_99, pl_100, pl_160, pl_240, pl_256, pl_300, pl_999, pl_1000, pl_1280, pl_9999, pl_10000, pu_neg, pu_nn, pu_le, pu_lt, pu_eq, pu_cl, pu_in, pu_g, pu_let, pu_bind, pu_m1, pu_add, pu_mul, Nat.not_lt_zero, if_false, if_true, Nat.zero_le, pu_d2, pu_d100, h.c, h.a6, pu_shl, fa_or, pu_orbit hl]
    rw [if_neg (by omega)]
    by_cases e2 : T 6 i = q <;> simp [e2]
  · intro n a ha
    simp (disch := omega) only [Md_those_l4, pl_0, pl_1, pl_2, pl_3, pl_4, pl_5, pl_6, pl_7, pl_8, pl_9, pl_10, pl_11, pl_12, pl_13, pl_14, pl_15, pl_16, pl_17, pl_18, pl_19, pl_20, pl_21, pl_30, pl_40, pl_50, pl_51, pl_60, pl_70, pl_71, pl_99, pl_100, pl_160, pl_240, pl_256, pl_300, pl_999, pl_1000, pl_1280, pl_9999, pl_10000, pu_neg, pu_nn, pu_le, pu_lt, pu_eq, pu_cl, pu_in, pu_g, pu_let, pu_bind, pu_m1, pu_add, pu_mul, Nat.not_lt_zero, if_false, if_true, Nat.zero_le, pu_d2, pu_d100, h.c]
    rw [if_pos (by omega)]
  · intro i a hi ha
    rw [ha]
    rfl
  · rw [fd_bts (fun i => decide (T 6 i = q))]
    have e : bts (atB T q) 8 = bts (fun i => decide (T 6 i = q)) (T 0 6) := by
      rw [bts_to (c := T 0 6) 8 hc (fun i hi => by simp [atB, show ¬ i < T 0 6 by omega])]
      exact bts_congr _ (fun i hi => by simp [atB, hi])
    rw [e]
theorem md_knownBy (h : MdR σ T) (hI : IslI T) {s : Nat} (hs : s < 2147483648) : Md_knownBy (nI s) σ = some (nI (orF T (fun i => s.testBit i) (T 0 6)), σ) := by
  have hc := hI.1
  unfold Md_knownBy
  refine (lp_fd (fun n i (a : Nat) => Md_knownBy_l4 (fun (e6 : Int32) (s5 : nm_St) => some (e6, s5)) n (nI s) (nI a) (nI i) σ) (fun a => some (nI a, σ)) (fun i a => if s.testBit i then a ||| T 4 i else a) (T 0 6) (fun _ _ => True) ?_ ?_ (fun _ _ _ _ => trivial) 0 trivial 400 (by omega)).trans ?_
  · intro n i a hi ha
    simp (disch := omega) only [Md_knownBy_l4, pl_0, pl_1, pl_2, pl_3, pl_4, pl_5, pl_6, pl_7, pl_8, pl_9, pl_10, pl_11, pl_12, pl_13, pl_14, pl_15, pl_16, pl_17, pl_18, pl_19, pl_20, pl_21, pl_30, pl_40, pl_50, pl_51, pl_60, pl_70, pl_71, pl_99, pl_100, pl_160, pl_240, pl_256, pl_300, pl_999, pl_1000, pl_1280, pl_9999, pl_10000, pu_neg, pu_nn, pu_le, pu_lt, pu_eq, pu_cl, pu_in, pu_g, pu_let, pu_bind, pu_m1, pu_add, pu_mul, Nat.not_lt_zero, if_false, if_true, Nat.zero_le, pu_d2, pu_d100, h.c, h.a4, md_has, fa_or]
    rw [if_neg (by omega)]
    by_cases e : s.testBit i = true <;> simp [e, pu_10]
  · intro n a ha
    simp (disch := omega) only [Md_knownBy_l4, pl_0, pl_1, pl_2, pl_3, pl_4, pl_5, pl_6, pl_7, pl_8, pl_9, pl_10, pl_11, pl_12, pl_13, pl_14, pl_15, pl_16, pl_17, pl_18, pl_19, pl_20, pl_21, pl_30, pl_40, pl_50, pl_51, pl_60, pl_70, pl_71, pl_99, pl_100, pl_160, pl_240, pl_256, pl_300, pl_999, pl_1000, pl_1280, pl_9999, pl_10000, pu_neg, pu_nn, pu_le, pu_lt, pu_eq, pu_cl, pu_in, pu_g, pu_let, pu_bind, pu_m1, pu_add, pu_mul, Nat.not_lt_zero, if_false, if_true, Nat.zero_le, pu_d2, pu_d100, h.c]
    rw [if_pos (by omega)]
  · rw [fd_orF T (fun i => s.testBit i)]
theorem md_ones {s : Nat} (hs : s < 2147483648) : Md_ones (nI s) σ = some (nI (pcN s), σ) := by
  unfold Md_ones
  refine (lp_fd (fun n i (a : Nat) => Md_ones_l4 (fun (e6 : Int32) (s5 : nm_St) => some (e6, s5)) n (nI s) (nI a) (nI i) σ) (fun a => some (nI a, σ)) (fun i a => if s.testBit i then a + 1 else a) 8 (fun _ _ => True) ?_ ?_ (fun _ _ _ _ => trivial) 0 trivial 400 (by omega)).trans ?_
  · intro n i a hi ha
    simp (disch := omega) only [Md_ones_l4, pl_0, pl_1, pl_2, pl_3, pl_4, pl_5, pl_6, pl_7, pl_8, pl_9, pl_10, pl_11, pl_12, pl_13, pl_14, pl_15, pl_16, pl_17, pl_18, pl_19, pl_20, pl_21, pl_30, pl_40, pl_50, pl_51, pl_60, pl_70, pl_71, pl_99, pl_100, pl_160, pl_240, pl_256, pl_300, pl_999, pl_1000, pl_1280, pl_9999, pl_10000, pu_neg, pu_nn, pu_le, pu_lt, pu_eq, pu_cl, pu_in, pu_g, pu_let, pu_bind, pu_m1, pu_add, pu_mul, Nat.not_lt_zero, if_false, if_true, Nat.zero_le, pu_d2, pu_d100, pu_shr, pu_and1, pu_tb]
    rw [if_neg (by omega)]
    by_cases e : s.testBit i = true <;> simp [e]
  · intro n a ha
    simp (disch := omega) only [Md_ones_l4, pl_0, pl_1, pl_2, pl_3, pl_4, pl_5, pl_6, pl_7, pl_8, pl_9, pl_10, pl_11, pl_12, pl_13, pl_14, pl_15, pl_16, pl_17, pl_18, pl_19, pl_20, pl_21, pl_30, pl_40, pl_50, pl_51, pl_60, pl_70, pl_71, pl_99, pl_100, pl_160, pl_240, pl_256, pl_300, pl_999, pl_1000, pl_1280, pl_9999, pl_10000, pu_neg, pu_nn, pu_le, pu_lt, pu_eq, pu_cl, pu_in, pu_g, pu_let, pu_bind, pu_m1, pu_add, pu_mul, Nat.not_lt_zero, if_false, if_true, Nat.zero_le, pu_d2, pu_d100]
    rw [if_pos (by omega)]
  · rw [fd_cnt (fun i => s.testBit i)]
    rfl
/-- how many of a set know a part -/
def ownC (T : is_T) (s q : Nat) : Nat := cntB (fun m => s.testBit m && (T 4 m).testBit q) (T 0 6)
theorem md_owners (h : MdR σ T) (hI : IslI T) {s q : Nat} (hs : s < 2147483648) (hq : q < 31) : Md_owners (nI q) (nI s) σ = some (nI (ownC T s q), σ) := by
  have hc := hI.1
  unfold Md_owners
  refine (lp_fd (fun n i (a : Nat) => Md_owners_l5 (fun (e6 : Int32) (s5 : nm_St) => some (e6, s5)) n (nI q) (nI s) (nI a) (nI i) σ) (fun a => some (nI a, σ)) (fun i a => if s.testBit i && (T 4 i).testBit q then a + 1 else a) (T 0 6) (fun _ _ => True) ?_ ?_ (fun _ _ _ _ => trivial) 0 trivial 400 (by omega)).trans ?_
  · intro n i a hi ha
    have h4 := (hI.2.2.2.2 i (by omega)).2.2.2.1
    simp (disch := omega) only [Md_owners_l5, pl_0, pl_1, pl_2, pl_3, pl_4, pl_5, pl_6, pl_7, pl_8, pl_9, pl_10, pl_11, pl_12, pl_13, pl_14, pl_15, pl_16, pl_17, pl_18, pl_19, pl_20, pl_21, pl_30, pl_40, pl_50, pl_51, pl_60, pl_70, pl_71, pl_99, pl_100, pl_160, pl_240, pl_256, pl_300, pl_999, pl_1000, pl_1280, pl_9999, pl_10000, pu_neg, pu_nn, pu_le, pu_lt, pu_eq, pu_cl, pu_in, pu_g, pu_let, pu_bind, pu_m1, pu_add, pu_mul, Nat.not_lt_zero, if_false, if_true, Nat.zero_le, pu_d2, pu_d100, h.c, h.a4, md_has]
    rw [if_neg (by omega)]
    by_cases e : s.testBit i = true <;> by_cases e2 : (T 4 i).testBit q = true <;> simp [e, e2, pu_10]
  · intro n a ha
    simp (disch := omega) only [Md_owners_l5, pl_0, pl_1, pl_2, pl_3, pl_4, pl_5, pl_6, pl_7, pl_8, pl_9, pl_10, pl_11, pl_12, pl_13, pl_14, pl_15, pl_16, pl_17, pl_18, pl_19, pl_20, pl_21, pl_30, pl_40, pl_50, pl_51, pl_60, pl_70, pl_71, pl_99, pl_100, pl_160, pl_240, pl_256, pl_300, pl_999, pl_1000, pl_1280, pl_9999, pl_10000, pu_neg, pu_nn, pu_le, pu_lt, pu_eq, pu_cl, pu_in, pu_g, pu_let, pu_bind, pu_m1, pu_add, pu_mul, Nat.not_lt_zero, if_false, if_true, Nat.zero_le, pu_d2, pu_d100, h.c]
    rw [if_pos (by omega)]
  · rw [fd_cnt (fun i => s.testBit i && (T 4 i).testBit q)]
    rfl
end MDA
