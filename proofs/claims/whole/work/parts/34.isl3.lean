/-! what is known abroad, who knows, who lives; both sides -/
def alvB (T : is_T) (m : Nat) : Bool := decide (m < T 0 6) && decide (T 6 m ≠ 3)
def madeN (T : is_T) (f : Nat → Bool) : Nat := if orF T f 8 = 2 ^ T 0 7 - 1 then 1 else 0
theorem pl_m1 : (-nI 1 : Int32) = -1 := by decide +kernel
theorem pu_andm (a b : Nat) : nI a &&& (nI b ^^^ -nI 1) = nI (andN a b) := by rw [pl_m1, pu_andn]
theorem pu_em1 {m : Nat} (h : m < 2147483648) : (nI m = -nI 1) = False := by rw [pl_m1, pu_m1 h]
theorem bts8 (f : Nat → Bool) : bts f 8 < 256 := bts_lt f 8
theorem bts8_tb (f : Nat → Bool) {i : Nat} (h : i < 8) : (bts f 8).testBit i = f i := by rw [bts_tb]; simp [h]
theorem alv_eq (T : is_T) (hc : T 0 6 ≤ 8) : andN (2 ^ T 0 6 - 1) (bts (atB T 3) 8) = bts (alvB T) 8 := by
  have hp := pu_p2 hc
  refine bts_eq (n := 8) (Nat.lt_of_le_of_lt (andN_le _ _) (show 2 ^ T 0 6 - 1 < 2 ^ 8 by omega)) (fun i hi => ?_)
  rw [andN_tb (by omega), Nat.testBit_two_pow_sub_one, bts8_tb _ hi]
  unfold alvB atB
  by_cases h1 : i < T 0 6 <;> by_cases h2 : T 6 i = 3 <;> simp [h1, h2]
section ISC
variable {σ : nm_St} {o : Nat} {T : is_T}
theorem is_isPart_v (h : IslR σ o T) (hI : IslI T) {q : Nat} (hq : q < T 0 7) : Is_isPart o (nI q) σ = some (nI 1, σ) := by
  have hp := hI.2.1
  unfold Is_isPart
  simp (disch := omega) only [pl_0, pl_1, pl_2, pl_3, pl_4, pl_5, pl_6, pl_7, pl_8, pl_9, pl_10, pl_11, pl_12, pl_13, pl_14, pl_15, pl_16, pl_17, pl_18, pl_19, pl_20, pl_21, pl_30, pl_40, pl_50, pl_51, pl_60, pl_70, pl_71, pl_99, pl_100, pl_160, pl_240, pl_256, pl_300, pl_999, pl_1000, pl_1280, pl_9999, pl_10000, pu_neg, pu_nn, pu_le, pu_lt, pu_eq, pu_cl, pu_in, pu_g, pu_let, pu_bind, pu_m1, pu_add, pu_mul, Nat.not_lt_zero, if_false, if_true, Nat.zero_le, pu_d2, pu_d100, h.p]
  rw [if_neg (by omega)]
theorem is_isPart_n (h : IslR σ o T) {x : Int32} (hx : x < 0 ∨ nI (T 0 7) ≤ x) : Is_isPart o x σ = some (nI 0, σ) := by
  unfold Is_isPart
  rw [h.p]
  by_cases h1 : x < 0
  · rw [if_pos h1]; rfl
  · rw [if_neg h1, if_pos (hx.resolve_left h1)]; rfl
theorem is_isFull (h : IslR σ o T) (hI : IslI T) : Is_isFull o σ = some (nI (if T 0 6 = 8 then 1 else 0), σ) := by
  have hc := hI.1
  unfold Is_isFull
  simp (disch := omega) only [pl_0, pl_1, pl_2, pl_3, pl_4, pl_5, pl_6, pl_7, pl_8, pl_9, pl_10, pl_11, pl_12, pl_13, pl_14, pl_15, pl_16, pl_17, pl_18, pl_19, pl_20, pl_21, pl_30, pl_40, pl_50, pl_51, pl_60, pl_70, pl_71, pl_99, pl_100, pl_160, pl_240, pl_256, pl_300, pl_999, pl_1000, pl_1280, pl_9999, pl_10000, pu_neg, pu_nn, pu_le, pu_lt, pu_eq, pu_cl, pu_in, pu_g, pu_let, pu_bind, pu_m1, pu_add, pu_mul, Nat.not_lt_zero, if_false, if_true, Nat.zero_le, pu_d2, pu_d100, h.c]
  by_cases e : T 0 6 = 8
  · rw [if_neg (by omega), if_pos e]
  · rw [if_pos (by omega), if_neg e]
theorem is_kindOf (h : IslR σ o T) (hI : IslI T) {m : Nat} (hm : m < T 0 6) : Is_kindOf o (nI m) σ = some (nI (T 1 m), σ) := by
  have hc := hI.1
  unfold Is_kindOf
  simp (disch := omega) only [pl_0, pl_1, pl_2, pl_3, pl_4, pl_5, pl_6, pl_7, pl_8, pl_9, pl_10, pl_11, pl_12, pl_13, pl_14, pl_15, pl_16, pl_17, pl_18, pl_19, pl_20, pl_21, pl_30, pl_40, pl_50, pl_51, pl_60, pl_70, pl_71, pl_99, pl_100, pl_160, pl_240, pl_256, pl_300, pl_999, pl_1000, pl_1280, pl_9999, pl_10000, pu_neg, pu_nn, pu_le, pu_lt, pu_eq, pu_cl, pu_in, pu_g, pu_let, pu_bind, pu_m1, pu_add, pu_mul, Nat.not_lt_zero, if_false, if_true, Nat.zero_le, pu_d2, pu_d100, is_isMaker_v h hI hm, h.a 1]
  rw [if_neg (by decide)]
theorem is_aOf (h : IslR σ o T) (hI : IslI T) {m : Nat} (hm : m < T 0 6) : Is_aOf o (nI m) σ = some (nI (T 2 m), σ) := by
  have hc := hI.1
  unfold Is_aOf
  simp (disch := omega) only [pl_0, pl_1, pl_2, pl_3, pl_4, pl_5, pl_6, pl_7, pl_8, pl_9, pl_10, pl_11, pl_12, pl_13, pl_14, pl_15, pl_16, pl_17, pl_18, pl_19, pl_20, pl_21, pl_30, pl_40, pl_50, pl_51, pl_60, pl_70, pl_71, pl_99, pl_100, pl_160, pl_240, pl_256, pl_300, pl_999, pl_1000, pl_1280, pl_9999, pl_10000, pu_neg, pu_nn, pu_le, pu_lt, pu_eq, pu_cl, pu_in, pu_g, pu_let, pu_bind, pu_m1, pu_add, pu_mul, Nat.not_lt_zero, if_false, if_true, Nat.zero_le, pu_d2, pu_d100, is_isMaker_v h hI hm, h.a 2]
  rw [if_neg (by decide)]
theorem is_allParts (h : IslR σ o T) (hI : IslI T) : Is_allParts o σ = some (nI (2 ^ T 0 7 - 1), σ) := by
  unfold Is_allParts
  simp only [pl_0, pl_1, pl_2, pl_3, pl_4, pl_5, pl_6, pl_7, pl_8, pl_9, pl_10, pl_11, pl_12, pl_13, pl_14, pl_15, pl_16, pl_17, pl_18, pl_19, pl_20, pl_21, pl_30, pl_40, pl_50, pl_51, pl_60, pl_70, pl_71, pl_99, pl_100, pl_160, pl_240, pl_256, pl_300, pl_999, pl_1000, pl_1280, pl_9999, pl_10000, h.p, pu_all hI.2.1.2]
theorem is_everyone (h : IslR σ o T) (hI : IslI T) : Is_everyone o σ = some (nI (2 ^ T 0 6 - 1), σ) := by
  unfold Is_everyone
  simp only [pl_0, pl_1, pl_2, pl_3, pl_4, pl_5, pl_6, pl_7, pl_8, pl_9, pl_10, pl_11, pl_12, pl_13, pl_14, pl_15, pl_16, pl_17, pl_18, pl_19, pl_20, pl_21, pl_30, pl_40, pl_50, pl_51, pl_60, pl_70, pl_71, pl_99, pl_100, pl_160, pl_240, pl_256, pl_300, pl_999, pl_1000, pl_1280, pl_9999, pl_10000, h.c, pu_all hI.1]
theorem is_thoseAlive (h : IslR σ o T) (hI : IslI T) : Is_thoseAlive o σ = some (nI (bts (alvB T) 8), σ) := by
  unfold Is_thoseAlive
  simp only [pl_0, pl_1, pl_2, pl_3, pl_4, pl_5, pl_6, pl_7, pl_8, pl_9, pl_10, pl_11, pl_12, pl_13, pl_14, pl_15, pl_16, pl_17, pl_18, pl_19, pl_20, pl_21, pl_30, pl_40, pl_50, pl_51, pl_60, pl_70, pl_71, pl_99, pl_100, pl_160, pl_240, pl_256, pl_300, pl_999, pl_1000, pl_1280, pl_9999, pl_10000, is_everyone h hI, is_thoseAt h hI (Nat.le_refl 3), pu_bind, pu_andm, alv_eq T hI.1]
theorem is_knownAbroad (h : IslR σ o T) (hI : IslI T) : Is_knownAbroad o σ = some (nI (orF T (atB T 1) 8), σ) := by
  unfold Is_knownAbroad
  simp only [pl_0, pl_1, pl_2, pl_3, pl_4, pl_5, pl_6, pl_7, pl_8, pl_9, pl_10, pl_11, pl_12, pl_13, pl_14, pl_15, pl_16, pl_17, pl_18, pl_19, pl_20, pl_21, pl_30, pl_40, pl_50, pl_51, pl_60, pl_70, pl_71, pl_99, pl_100, pl_160, pl_240, pl_256, pl_300, pl_999, pl_1000, pl_1280, pl_9999, pl_10000]
  refine (lp_fd (fun n i (a : Nat) => Is_knownAbroad_l4 o (fun (e6 : Int32) (s5 : nm_St) => some (e6, s5)) n (nI a) (nI i) σ) (fun a => some (nI a, σ)) (fun i a => if atB T 1 i then a ||| T 4 i else a) 8 (fun _ _ => True) ?_ ?_ (fun _ _ _ _ => trivial) 0 trivial 400 (by omega)).trans ?_
  · intro n i a hi ha
    simp (disch := omega) only [Is_knownAbroad_l4, pl_0, pl_1, pl_2, pl_3, pl_4, pl_5, pl_6, pl_7, pl_8, pl_9, pl_10, pl_11, pl_12, pl_13, pl_14, pl_15, pl_16, pl_17, pl_18, pl_19, pl_20, pl_21, pl_30, pl_40, pl_50, pl_51, pl_60, pl_70, pl_71, pl_99, pl_100, pl_160, pl_240, pl_256, pl_300, pl_999, pl_1000, pl_1280, pl_9999, pl_10000, pu_neg, pu_nn, pu_le, pu_lt, pu_eq, pu_cl, pu_in, pu_g, pu_let, pu_bind, pu_m1, pu_add, pu_mul, Nat.not_lt_zero, if_false, if_true, Nat.zero_le, pu_d2, pu_d100, is_isAt h hI hi (show 1 ≤ 3 by omega), h.a 4, fa_or]
    rw [if_neg (by omega)]
    by_cases e : atB T 1 i = true <;> simp [e, pu_10]
  · intro n a ha
    simp (disch := omega) only [Is_knownAbroad_l4, pl_0, pl_1, pl_2, pl_3, pl_4, pl_5, pl_6, pl_7, pl_8, pl_9, pl_10, pl_11, pl_12, pl_13, pl_14, pl_15, pl_16, pl_17, pl_18, pl_19, pl_20, pl_21, pl_30, pl_40, pl_50, pl_51, pl_60, pl_70, pl_71, pl_99, pl_100, pl_160, pl_240, pl_256, pl_300, pl_999, pl_1000, pl_1280, pl_9999, pl_10000, pu_neg, pu_nn, pu_le, pu_lt, pu_eq, pu_cl, pu_in, pu_g, pu_let, pu_bind, pu_m1, pu_add, pu_mul, Nat.not_lt_zero, if_false, if_true, Nat.zero_le, pu_d2, pu_d100]
    rw [if_pos (by omega)]
  · rw [fd_orF T (atB T 1)]
theorem is_isMadeAbroad (h : IslR σ o T) (hI : IslI T) : Is_isMadeAbroad o σ = some (nI (madeN T (atB T 1)), σ) := by
  have h1 := orF_lt hI (atB T 1) 8 (by omega)
  have h2 := pu_p2 hI.2.1.2
  unfold Is_isMadeAbroad madeN
  simp (disch := omega) only [pl_0, pl_1, pl_2, pl_3, pl_4, pl_5, pl_6, pl_7, pl_8, pl_9, pl_10, pl_11, pl_12, pl_13, pl_14, pl_15, pl_16, pl_17, pl_18, pl_19, pl_20, pl_21, pl_30, pl_40, pl_50, pl_51, pl_60, pl_70, pl_71, pl_99, pl_100, pl_160, pl_240, pl_256, pl_300, pl_999, pl_1000, pl_1280, pl_9999, pl_10000, pu_neg, pu_nn, pu_le, pu_lt, pu_eq, pu_cl, pu_in, pu_g, pu_let, pu_bind, pu_m1, pu_add, pu_mul, Nat.not_lt_zero, if_false, if_true, Nat.zero_le, pu_d2, pu_d100, is_knownAbroad h hI, is_allParts h hI]
  split <;> rfl
/-- how many of a set know a part, to 8 -/
def whoC (T : is_T) (s q : Nat) : Nat := cntB (fun m => s.testBit m && (T 4 m).testBit q) 8
theorem whoC_le (T : is_T) (s q : Nat) : whoC T s q ≤ 8 := cntB_le _ 8
theorem is_whoKnow (h : IslR σ o T) (hI : IslI T) (s : Nat) {q : Nat} (hq : q < 31) : Is_whoKnow o (nI s) (nI q) σ = some (nI (whoC T s q), σ) := by
  unfold Is_whoKnow
  simp only [pl_0, pl_1, pl_2, pl_3, pl_4, pl_5, pl_6, pl_7, pl_8, pl_9, pl_10, pl_11, pl_12, pl_13, pl_14, pl_15, pl_16, pl_17, pl_18, pl_19, pl_20, pl_21, pl_30, pl_40, pl_50, pl_51, pl_60, pl_70, pl_71, pl_99, pl_100, pl_160, pl_240, pl_256, pl_300, pl_999, pl_1000, pl_1280, pl_9999, pl_10000]
  refine (lp_fd (fun n i (a : Nat) => Is_whoKnow_l5 o (fun (e6 : Int32) (s5 : nm_St) => some (e6, s5)) n (nI s) (nI q) (nI a) (nI i) σ) (fun a => some (nI a, σ)) (fun i a => if s.testBit i && (T 4 i).testBit q then a + 1 else a) 8 (fun _ _ => True) ?_ ?_ (fun _ _ _ _ => trivial) 0 trivial 400 (by omega)).trans ?_
  · intro n i a hi ha
    simp (disch := omega) only [Is_whoKnow_l5, pl_0, pl_1, pl_2, pl_3, pl_4, pl_5, pl_6, pl_7, pl_8, pl_9, pl_10, pl_11, pl_12, pl_13, pl_14, pl_15, pl_16, pl_17, pl_18, pl_19, pl_20, pl_21, pl_30, pl_40, pl_50, pl_51, pl_60, pl_70, pl_71, pl_99, pl_100, pl_160, pl_240, pl_256, pl_300, pl_999, pl_1000, pl_1280, pl_9999, pl_10000, pu_neg, pu_nn, pu_le, pu_lt, pu_eq, pu_cl, pu_in, pu_g, pu_let, pu_bind, pu_m1, pu_add, pu_mul, Nat.not_lt_zero, if_false, if_true, Nat.zero_le, pu_d2, pu_d100, h.a 4, pu_bit]
    rw [if_neg (by omega)]
    by_cases e : s.testBit i = true <;> by_cases e2 : (T 4 i).testBit q = true <;> simp [e, e2]
  · intro n a ha
    simp (disch := omega) only [Is_whoKnow_l5, pl_0, pl_1, pl_2, pl_3, pl_4, pl_5, pl_6, pl_7, pl_8, pl_9, pl_10, pl_11, pl_12, pl_13, pl_14, pl_15, pl_16, pl_17, pl_18, pl_19, pl_20, pl_21, pl_30, pl_40, pl_50, pl_51, pl_60, pl_70, pl_71, pl_99, pl_100, pl_160, pl_240, pl_256, pl_300, pl_999, pl_1000, pl_1280, pl_9999, pl_10000, pu_neg, pu_nn, pu_le, pu_lt, pu_eq, pu_cl, pu_in, pu_g, pu_let, pu_bind, pu_m1, pu_add, pu_mul, Nat.not_lt_zero, if_false, if_true, Nat.zero_le, pu_d2, pu_d100]
    rw [if_pos (by omega)]
  · rw [fd_cnt (fun i => s.testBit i && (T 4 i).testBit q)]
    rfl
theorem bts_succ (f : Nat → Bool) (n : Nat) : bts f (n + 1) = if f n then bts f n + 2 ^ n else bts f n := rfl
/-- known to one of the living -/
def k1B (T : is_T) (q : Nat) : Bool := decide (whoC T (bts (alvB T) 8) q = 1)
theorem k1B_iff (T : is_T) (q : Nat) : (whoC T (bts (alvB T) 8) q = 1) = (k1B T q = true) := by unfold k1B; simp
theorem kto_s (h : IslR σ o T) (hI : IslI T) (s : Nat) (f : Nat → Bool) (hf : ∀ q, (whoC T s q = 1) = (f q = true)) (n i a : Nat) (hi : i < T 0 7) (ha : a < 2 ^ i) : Is_knownToOne_l9 o (fun (e6 : Int32) (s5 : nm_St) => some (e6, s5)) (n + 1) (nI s) (nI a) (nI i) σ = Is_knownToOne_l9 o (fun (e6 : Int32) (s5 : nm_St) => some (e6, s5)) n (nI s) (nI (if f i then a + 2 ^ i else a)) (nI (i + 1)) σ := by
  have hp := hI.2.1
  have hw := whoC_le T s i
  have h31 : i < 31 := by omega
  simp (disch := omega) only [Is_knownToOne_l9, pl_0, pl_1, pl_2, pl_3, pl_4, pl_5, pl_6, pl_7, pl_8, pl_9, pl_10, pl_11, pl_12, pl_13, pl_14, pl_15, pl_16, pl_17, pl_18, pl_19, pl_20, pl_21, pl_30, pl_40, pl_50, pl_51, pl_60, pl_70, pl_71, pl_99, pl_100, pl_160, pl_240, pl_256, pl_300, pl_999, pl_1000, pl_1280, pl_9999, pl_10000, pu_neg, pu_nn, pu_le, pu_lt, pu_eq, pu_cl, pu_in, pu_g, pu_let, pu_bind, pu_m1, pu_add, pu_mul, Nat.not_lt_zero, if_false, if_true, Nat.zero_le, pu_d2, pu_d100, h.p, is_whoKnow h hI, hf]
  rw [if_neg (by omega), pu_shl i h31, fa_or, pu_orbit ha]
  cases f i <;> rfl
theorem kto_e (h : IslR σ o T) (hI : IslI T) (s : Nat) (n a : Nat) : Is_knownToOne_l9 o (fun (e6 : Int32) (s5 : nm_St) => some (e6, s5)) (n + 1) (nI s) (nI a) (nI (T 0 7)) σ = some (nI a, σ) := by
  have hp := hI.2.1
  simp (disch := omega) only [Is_knownToOne_l9, pl_0, pl_1, pl_2, pl_3, pl_4, pl_5, pl_6, pl_7, pl_8, pl_9, pl_10, pl_11, pl_12, pl_13, pl_14, pl_15, pl_16, pl_17, pl_18, pl_19, pl_20, pl_21, pl_30, pl_40, pl_50, pl_51, pl_60, pl_70, pl_71, pl_99, pl_100, pl_160, pl_240, pl_256, pl_300, pl_999, pl_1000, pl_1280, pl_9999, pl_10000, pu_neg, pu_nn, pu_le, pu_lt, pu_eq, pu_cl, pu_in, pu_g, pu_let, pu_bind, pu_m1, pu_add, pu_mul, Nat.not_lt_zero, if_false, if_true, Nat.zero_le, pu_d2, pu_d100, h.p]
  rw [if_pos (by omega)]
theorem kto_l (h : IslR σ o T) (hI : IslI T) (s : Nat) (f : Nat → Bool) (hf : ∀ q, (whoC T s q = 1) = (f q = true)) : Is_knownToOne_l9 o (fun (e6 : Int32) (s5 : nm_St) => some (e6, s5)) 400 (nI s) (nI 0) (nI 0) σ = some (nI (bts f (T 0 7)), σ) := by
  have hp := hI.2.1
  refine (lp_fd (fun n i (a : Nat) => Is_knownToOne_l9 o (fun (e6 : Int32) (s5 : nm_St) => some (e6, s5)) n (nI s) (nI a) (nI i) σ) (fun a => some (nI a, σ)) (fun i a => if f i then a + 2 ^ i else a) (T 0 7) (fun i a => a = bts f i) ?_ ?_ ?_ 0 ?_ 400 (by omega)).trans ?_
  · intro n i a hi ha
    exact kto_s h hI s f hf n i a hi (by rw [ha]; exact bts_lt f i)
  · intro n a ha
    exact kto_e h hI s n a
  · intro i a hi ha
    rw [ha, bts_succ]
  · rfl
  · rw [fd_bts f]
theorem bind_of {α β γ : Type} {x : Option (α × β)} {a : α} {s : β} {f : α × β → Option γ} {r : Option γ} (e : x = some (a, s)) (k : f (a, s) = r) : x.bind f = r := by rw [e]; exact k
theorem kto_a : Is_knownToOne o σ = (Is_thoseAlive o σ).bind (fun q1 => Is_knownToOne_l9 o (fun (e6 : Int32) (s5 : nm_St) => some (e6, s5)) 400 q1.1 0 0 q1.2) := by
  unfold Is_knownToOne
  exact Eq.refl _
theorem kto_b (s : Nat) : Is_knownToOne_l9 o (fun (e6 : Int32) (s5 : nm_St) => some (e6, s5)) 400 (nI s) 0 0 σ = Is_knownToOne_l9 o (fun (e6 : Int32) (s5 : nm_St) => some (e6, s5)) 400 (nI s) (nI 0) (nI 0) σ := by
  rw [pl_0]
theorem is_knownToOne (h : IslR σ o T) (hI : IslI T) : Is_knownToOne o σ = some (nI (bts (k1B T) (T 0 7)), σ) := by
  rw [kto_a]
  exact bind_of (is_thoseAlive h hI) ((kto_b _).trans (kto_l h hI _ _ (k1B_iff T)))
/-- the least of f 0 .. f (n - 1) and b -/
def minF (f : Nat → Nat) (b : Nat) : Nat → Nat
  | 0 => b
  | n + 1 => if f n < minF f b n then f n else minF f b n
theorem minF_le (f : Nat → Nat) (b : Nat) : ∀ n, minF f b n ≤ b
  | 0 => Nat.le_refl _
  | n + 1 => by have := minF_le f b n; unfold minF; split <;> omega
theorem minF_lt {f : Nat → Nat} {b k : Nat} : ∀ n, k < minF f b n ↔ k < b ∧ ∀ i, i < n → k < f i := by
  intro n
  induction n with
  | zero => simp [minF]
  | succ n ih =>
    unfold minF
    constructor
    · intro h
      have h1 : k < minF f b n := by split at h <;> omega
      have h2 : k < f n := by split at h <;> omega
      refine ⟨(ih.mp h1).1, fun i hi => ?_⟩
      by_cases e : i = n
      · rw [e]; exact h2
      · exact (ih.mp h1).2 i (by omega)
    · rintro ⟨h1, h2⟩
      have h3 := ih.mpr ⟨h1, fun i hi => h2 i (by omega)⟩
      have h4 := h2 n (by omega)
      split <;> omega
def fewN (T : is_T) : Nat := minF (fun q => whoC T (bts (atB T 0) 8) q) 8 (T 0 7)
theorem is_fewest (h : IslR σ o T) (hI : IslI T) : Is_fewestAtHomeForAPart o σ = some (nI (fewN T), σ) := by
  have hp := hI.2.1
  unfold Is_fewestAtHomeForAPart
  simp only [pl_0, pl_1, pl_2, pl_3, pl_4, pl_5, pl_6, pl_7, pl_8, pl_9, pl_10, pl_11, pl_12, pl_13, pl_14, pl_15, pl_16, pl_17, pl_18, pl_19, pl_20, pl_21, pl_30, pl_40, pl_50, pl_51, pl_60, pl_70, pl_71, pl_99, pl_100, pl_160, pl_240, pl_256, pl_300, pl_999, pl_1000, pl_1280, pl_9999, pl_10000, is_thoseAt h hI (Nat.zero_le 3), pu_bind]
  refine (lp_fd (fun n i (a : Nat) => Is_fewestAtHomeForAPart_l11 o (fun (e6 : Int32) (s5 : nm_St) => some (e6, s5)) n (nI (bts (atB T 0) 8)) (nI a) (nI i) σ) (fun a => some (nI a, σ)) (fun i a => if whoC T (bts (atB T 0) 8) i < a then whoC T (bts (atB T 0) 8) i else a) (T 0 7) (fun _ a => a ≤ 8) ?_ ?_ ?_ 8 (Nat.le_refl 8) 400 (by omega)).trans ?_
  · intro n i a hi ha
    have hw := whoC_le T (bts (atB T 0) 8) i
    simp (disch := omega) only [Is_fewestAtHomeForAPart_l11, pl_0, pl_1, pl_2, pl_3, pl_4, pl_5, pl_6, pl_7, pl_8, pl_9, pl_10, pl_11, pl_12, pl_13, pl_14, pl_15, pl_16, pl_17, pl_18, pl_19, pl_20, pl_21, pl_30, pl_40, pl_50, pl_51, pl_60, pl_70, pl_71, pl_99, pl_100, pl_160, pl_240, pl_256, pl_300, pl_999, pl_1000, pl_1280, pl_9999, pl_10000, pu_neg, pu_nn, pu_le, pu_lt, pu_eq, pu_cl, pu_in, pu_g, pu_let, pu_bind, pu_m1, pu_add, pu_mul, Nat.not_lt_zero, if_false, if_true, Nat.zero_le, pu_d2, pu_d100, h.p, is_whoKnow h hI]
    rw [if_neg (by omega)]
    by_cases e2 : whoC T (bts (atB T 0) 8) i < a <;> simp [e2]
  · intro n a ha
    simp (disch := omega) only [Is_fewestAtHomeForAPart_l11, pl_0, pl_1, pl_2, pl_3, pl_4, pl_5, pl_6, pl_7, pl_8, pl_9, pl_10, pl_11, pl_12, pl_13, pl_14, pl_15, pl_16, pl_17, pl_18, pl_19, pl_20, pl_21, pl_30, pl_40, pl_50, pl_51, pl_60, pl_70, pl_71, pl_99, pl_100, pl_160, pl_240, pl_256, pl_300, pl_999, pl_1000, pl_1280, pl_9999, pl_10000, pu_neg, pu_nn, pu_le, pu_lt, pu_eq, pu_cl, pu_in, pu_g, pu_let, pu_bind, pu_m1, pu_add, pu_mul, Nat.not_lt_zero, if_false, if_true, Nat.zero_le, pu_d2, pu_d100, h.p]
    rw [if_pos (by omega)]
  · intro i a hi ha
    have hw := whoC_le T (bts (atB T 0) 8) i
    split <;> omega
  · have e : ∀ n, fd (fun i a => if whoC T (bts (atB T 0) 8) i < a then whoC T (bts (atB T 0) 8) i else a) 8 n = minF (fun q => whoC T (bts (atB T 0) 8) q) 8 n := by
      intro n
      induction n with
      | zero => rfl
      | succ n ih => rw [fd_succ, ih]; rfl
    rw [e]
    rfl
theorem ownC_who (T : is_T) (hc : T 0 6 ≤ 8) {f : Nat → Bool} (hf : ∀ i, T 0 6 ≤ i → f i = false) (q : Nat) : ownC T (bts f 8) q = whoC T (bts f 8) q := by
  unfold ownC whoC
  rw [cntB_to (c := T 0 6) 8 hc (fun i hi => by rw [bts_tb, hf i hi]; simp)]
theorem at_out {T : is_T} {q i : Nat} (h : T 0 6 ≤ i) : atB T q i = false := by simp [atB, show ¬ i < T 0 6 by omega]
theorem alv_out {T : is_T} {i : Nat} (h : T 0 6 ≤ i) : alvB T i = false := by simp [alvB, show ¬ i < T 0 6 by omega]
theorem md_kn (h : MdR σ T) (hI : IslI T) {f : Nat → Bool} (hf : ∀ i, T 0 6 ≤ i → f i = false) : Md_knownBy (nI (bts f 8)) σ = some (nI (orF T f 8), σ) := by
  have h1 := bts8 f
  rw [md_knownBy h hI (by omega), orF_to (c := T 0 6) 8 hI.1 hf]
  congr 3
  exact orF_congr _ (fun i hi => bts8_tb f (by have := hI.1; omega))
theorem md_isMade (h : MdR σ T) (hI : IslI T) {f : Nat → Bool} (hf : ∀ i, T 0 6 ≤ i → f i = false) : Md_isMade (nI (bts f 8)) σ = some (nI (madeN T f), σ) := by
  have h1 := orF_lt hI f 8 (by omega)
  have h2 := pu_p2 hI.2.1.2
  unfold Md_isMade madeN
  simp only [pl_0, pl_1, pl_2, pl_3, pl_4, pl_5, pl_6, pl_7, pl_8, pl_9, pl_10, pl_11, pl_12, pl_13, pl_14, pl_15, pl_16, pl_17, pl_18, pl_19, pl_20, pl_21, pl_30, pl_40, pl_50, pl_51, pl_60, pl_70, pl_71, pl_99, pl_100, pl_160, pl_240, pl_256, pl_300, pl_999, pl_1000, pl_1280, pl_9999, pl_10000, md_kn h hI hf, pu_bind, h.p, pu_all hI.2.1.2]
  simp (disch := omega) only [pu_eq]
  split <;> rfl
theorem md_living (h : MdR σ T) (hI : IslI T) : Md_living σ = some (nI (bts (alvB T) 8), σ) := by
  unfold Md_living
  simp only [pl_0, pl_1, pl_2, pl_3, pl_4, pl_5, pl_6, pl_7, pl_8, pl_9, pl_10, pl_11, pl_12, pl_13, pl_14, pl_15, pl_16, pl_17, pl_18, pl_19, pl_20, pl_21, pl_30, pl_40, pl_50, pl_51, pl_60, pl_70, pl_71, pl_99, pl_100, pl_160, pl_240, pl_256, pl_300, pl_999, pl_1000, pl_1280, pl_9999, pl_10000, md_those h hI (Nat.le_refl 3), pu_bind, h.c, pu_all hI.1, pu_andm, alv_eq T hI.1]
end ISC
