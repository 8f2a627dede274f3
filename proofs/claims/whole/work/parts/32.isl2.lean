/-! more of bits; the island's counts, prices, knowledge -/
theorem fd_bts (f : Nat → Bool) : ∀ n, fd (fun i a => if f i then a + 2 ^ i else a) 0 n = bts f n := by
  intro n
  induction n with
  | zero => rfl
  | succ n ih => rw [fd_succ, ih]; rfl
theorem fd_cnt (f : Nat → Bool) : ∀ n, fd (fun i a => if f i then a + 1 else a) 0 n = cntB f n := by
  intro n
  induction n with
  | zero => rfl
  | succ n ih => rw [fd_succ, ih]; rfl
/-- what those with f know together -/
def orF (T : is_T) (f : Nat → Bool) : Nat → Nat
  | 0 => 0
  | n + 1 => if f n then orF T f n ||| T 4 n else orF T f n
theorem fd_orF (T : is_T) (f : Nat → Bool) : ∀ n, fd (fun i a => if f i then a ||| T 4 i else a) 0 n = orF T f n := by
  intro n
  induction n with
  | zero => rfl
  | succ n ih => rw [fd_succ, ih]; rfl
theorem orF_congr {T : is_T} {f g : Nat → Bool} : ∀ n, (∀ i, i < n → f i = g i) → orF T f n = orF T g n := by
  intro n
  induction n with
  | zero => intro _; rfl
  | succ n ih => intro h; unfold orF; rw [ih (fun i hi => h i (by omega)), h n (by omega)]
theorem orF_to {T : is_T} {f : Nat → Bool} {c : Nat} : ∀ n, c ≤ n → (∀ i, c ≤ i → f i = false) → orF T f n = orF T f c := by
  intro n
  induction n with
  | zero => intro h _; rw [show c = 0 by omega]
  | succ n ih =>
    intro h hf
    by_cases e : c = n + 1
    · rw [e]
    · rw [show orF T f (n + 1) = if f n then orF T f n ||| T 4 n else orF T f n from rfl, hf n (by omega), if_neg (by decide)]
      exact ih (by omega) hf
theorem orF_lt {T : is_T} (hI : IslI T) (f : Nat → Bool) : ∀ n, n ≤ 8 → orF T f n < 256 := by
  intro n
  induction n with
  | zero => intro _; show 0 < 256; omega
  | succ n ih =>
    intro h
    have h1 := ih (by omega)
    have h2 := (hI.2.2.2.2 n (by omega)).2.2.2.1
    unfold orF
    split
    · exact Nat.or_lt_two_pow (n := 8) h1 h2
    · exact h1
theorem pu_p2 {p : Nat} (h : p ≤ 8) : 1 ≤ 2 ^ p ∧ 2 ^ p ≤ 256 := ⟨Nat.one_le_two_pow, Nat.pow_le_pow_right (n := 2) (by omega) h⟩
theorem pu_all {p : Nat} (h : p ≤ 8) : nI 1 <<< (nI p &&& 31) - nI 1 = nI (2 ^ p - 1) := by
  rw [pu_shl p (by omega), pk_sub (pu_p2 h).1]
/-- a without b -/
def andN (a b : Nat) : Nat := a &&& (b ^^^ 4294967295)
theorem pu_big : ∀ i, i < 32 → Nat.testBit 4294967295 i = true := by decide +kernel
theorem andN_tb {a b i : Nat} (ha : a < 2 ^ 32) : (andN a b).testBit i = (a.testBit i && !b.testBit i) := by
  unfold andN
  rw [Nat.testBit_and, Nat.testBit_xor]
  by_cases hi : i < 32
  · rw [pu_big i hi]
    simp
  · rw [Nat.testBit_lt_two_pow (Nat.lt_of_lt_of_le ha (Nat.pow_le_pow_right (by omega) (by omega)))]
    simp
theorem pu_andn (a b : Nat) : nI a &&& (nI b ^^^ -1) = nI (andN a b) := by
  have e : (-1 : Int32) = nI 4294967295 := by decide +kernel
  have x : nI b ^^^ nI 4294967295 = nI (b ^^^ 4294967295) := by
    apply Int32.toBitVec_inj.1
    show BitVec.ofNat 32 b ^^^ BitVec.ofNat 32 4294967295 = BitVec.ofNat 32 (b ^^^ 4294967295)
    apply BitVec.eq_of_getLsbD_eq
    intro i hi
    simp [hi]
  rw [e, x, fa_and]
  rfl
theorem andN_le (a b : Nat) : andN a b ≤ a := Nat.and_le_left
theorem bts_eq {x : Nat} {f : Nat → Bool} {n : Nat} (h : x < 2 ^ n) (hb : ∀ i, i < n → x.testBit i = f i) : x = bts f n := by
  apply Nat.eq_of_testBit_eq
  intro i
  rw [bts_tb]
  by_cases hi : i < n
  · rw [hb i hi]
    simp [hi]
  · rw [Nat.testBit_lt_two_pow (Nat.lt_of_lt_of_le h (Nat.pow_le_pow_right (by omega) (by omega)))]
    simp [hi]
/-- how many bits -/
def pcN (a : Nat) : Nat := cntB (fun i => a.testBit i) 8
theorem pcN_le (a : Nat) : pcN a ≤ 8 := cntB_le _ 8
def bcE (x : Int32) : Int32 := match Ji_bitCount x (fun _ _ => 0, fun _ _ => 0) with
  | some q => q.1
  | none => 0
theorem bcE_eq (x : Int32) (σ : nm_St) : Ji_bitCount x σ = some (bcE x, σ) := rfl
theorem bcE_N : ∀ a, a < 256 → bcE (nI a) = nI (pcN a) := by decide +kernel
theorem ji_bc {a : Nat} (h : a < 256) (σ : nm_St) : Ji_bitCount (nI a) σ = some (nI (pcN a), σ) := by rw [bcE_eq, bcE_N a h]
section ISB
variable {σ : nm_St} {o : Nat} {T : is_T}
/-- kin at home -/
def kinC (T : is_T) (m : Nat) : Nat := cntB (fun l => (T 5 m).testBit l && atB T 0 l) 8
theorem is_kinAtHome (h : IslR σ o T) (hI : IslI T) {m : Nat} (hm : m < T 0 6) : Is_kinAtHome o (nI m) σ = some (nI (kinC T m), σ) := by
  have hc := hI.1
  unfold Is_kinAtHome Is_kinAtHome_j18
  simp (disch := omega) only [pl_0, pl_1, pl_2, pl_3, pl_4, pl_5, pl_6, pl_7, pl_8, pl_9, pl_10, pl_11, pl_12, pl_13, pl_14, pl_15, pl_16, pl_17, pl_18, pl_19, pl_20, pl_21, pl_30, pl_40, pl_50, pl_51, pl_60, pl_70, pl_71, pl_99, pl_100, pl_160, pl_240, pl_256, pl_300, pl_999, pl_1000, pl_1280, pl_9999, pl_10000, pu_neg, pu_nn, pu_le, pu_lt, pu_eq, pu_cl, pu_in, pu_g, pu_let, pu_bind, pu_m1, pu_add, pu_mul, Nat.not_lt_zero, if_false, if_true, Nat.zero_le, pu_d2, pu_d100, is_isMaker_v h hI hm, h.a 5]
  rw [if_neg (by decide)]
  refine (lp_fd (fun n i (a : Nat) => Is_kinAtHome_l24 o (fun (e6 : Int32) (s5 : nm_St) => some (e6, s5)) n (nI (T 5 m)) (nI a) (nI i) σ) (fun a => some (nI a, σ)) (fun i a => if (T 5 m).testBit i && atB T 0 i then a + 1 else a) 8 (fun _ _ => True) ?_ ?_ (fun _ _ _ _ => trivial) 0 trivial 400 (by omega)).trans ?_
  · intro n i a hi ha
    simp (disch := omega) only [Is_kinAtHome_l24, pl_0, pl_1, pl_2, pl_3, pl_4, pl_5, pl_6, pl_7, pl_8, pl_9, pl_10, pl_11, pl_12, pl_13, pl_14, pl_15, pl_16, pl_17, pl_18, pl_19, pl_20, pl_21, pl_30, pl_40, pl_50, pl_51, pl_60, pl_70, pl_71, pl_99, pl_100, pl_160, pl_240, pl_256, pl_300, pl_999, pl_1000, pl_1280, pl_9999, pl_10000, pu_neg, pu_nn, pu_le, pu_lt, pu_eq, pu_cl, pu_in, pu_g, pu_let, pu_bind, pu_m1, pu_add, pu_mul, Nat.not_lt_zero, if_false, if_true, Nat.zero_le, pu_d2, pu_d100, is_isAt h hI hi (Nat.zero_le 3), pu_bit]
    rw [if_neg (by omega)]
    by_cases e : (T 5 m).testBit i = true <;> by_cases e2 : atB T 0 i = true <;> simp [e, e2, pu_10]
  · intro n a ha
    simp (disch := omega) only [Is_kinAtHome_l24, pl_0, pl_1, pl_2, pl_3, pl_4, pl_5, pl_6, pl_7, pl_8, pl_9, pl_10, pl_11, pl_12, pl_13, pl_14, pl_15, pl_16, pl_17, pl_18, pl_19, pl_20, pl_21, pl_30, pl_40, pl_50, pl_51, pl_60, pl_70, pl_71, pl_99, pl_100, pl_160, pl_240, pl_256, pl_300, pl_999, pl_1000, pl_1280, pl_9999, pl_10000, pu_neg, pu_nn, pu_le, pu_lt, pu_eq, pu_cl, pu_in, pu_g, pu_let, pu_bind, pu_m1, pu_add, pu_mul, Nat.not_lt_zero, if_false, if_true, Nat.zero_le, pu_d2, pu_d100]
    rw [if_pos (by omega)]
  · rw [fd_cnt (fun i => (T 5 m).testBit i && atB T 0 i)]
    rfl
def price (T : is_T) (m : Nat) : Nat :=
  if T 1 m = 1 then T 3 m + T 0 8 + 5 * kinC T m
  else if T 1 m = 2 then T 3 m / 2 + T 0 8
  else if T 1 m = 3 then T 3 m + T 0 8 + 5 * kinC T m + 3 * T 2 m
  else if T 1 m = 4 then T 3 m - T 2 m + T 0 8
  else if T 1 m = 5 then T 2 m
  else if T 1 m = 6 then T 3 m - T 2 m + T 0 8 / 2
  else T 3 m + T 0 8
theorem kinC_le (T : is_T) (m : Nat) : kinC T m ≤ 8 := cntB_le _ 8
theorem price_le (hI : IslI T) {m : Nat} (hm : m < 8) : price T m ≤ 300 := by
  have h1 := kinC_le T m
  have h2 := hI.2.2.2.2 m hm
  have h3 := hI.2.2.1
  unfold price
  repeat' split
  all_goals omega
theorem pu_max {a b : Nat} (ha : a ≤ 1000) (hb : b ≤ 1000) : (if nI 0 < nI a - nI b then nI a - nI b else nI 0) = nI (a - b) := by
  by_cases h : b ≤ a
  · rw [pk_sub h]
    by_cases e : a - b = 0
    · rw [e]; simp
    · rw [if_pos]
      exact nI_lt (by omega) (by omega)
  · have hs : nI a - nI b < 0 := pk_sneg (by omega) (by omega)
    rw [if_neg, show a - b = 0 by omega]
    intro q
    have h1 := Int32.lt_iff_toInt_lt.mp hs
    have h2 := Int32.lt_iff_toInt_lt.mp q
    rw [nI_toInt (by omega)] at h2
    have h3 : (0 : Int32).toInt = 0 := by decide
    rw [h3] at h1
    omega
theorem is_priceOf (h : IslR σ o T) (hI : IslI T) {m : Nat} (hm : m < T 0 6) : Is_priceOf o (nI m) σ = some (nI (price T m), σ) := by
  have hc := hI.1
  have hm8 : m < 8 := by omega
  have h2 := hI.2.2.2.2 m hm8
  have h3 := hI.2.2.1
  unfold Is_priceOf price
  simp (disch := omega) only [pl_0, pl_1, pl_2, pl_3, pl_4, pl_5, pl_6, pl_7, pl_8, pl_9, pl_10, pl_11, pl_12, pl_13, pl_14, pl_15, pl_16, pl_17, pl_18, pl_19, pl_20, pl_21, pl_30, pl_40, pl_50, pl_51, pl_60, pl_70, pl_71, pl_99, pl_100, pl_160, pl_240, pl_256, pl_300, pl_999, pl_1000, pl_1280, pl_9999, pl_10000, pu_neg, pu_nn, pu_le, pu_lt, pu_eq, pu_cl, pu_in, pu_g, pu_let, pu_bind, pu_m1, pu_add, pu_mul, Nat.not_lt_zero, if_false, if_true, Nat.zero_le, pu_d2, pu_d100, is_isMaker_v h hI hm, h.a 1, h.a 2, h.a 3, h.f, is_kinAtHome h hI hm, pu_max, pk_div]
  rw [if_neg (by decide)]
  repeat' split
  all_goals first | rfl | omega
end ISB
