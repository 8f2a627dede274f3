/-! plain facts: nI n, guards, folds -/
theorem pu_lit (n : Nat) : (OfNat.ofNat n : Int32) = nI n := Eq.trans rfl rfl
def un (x : Int32) : Nat := x.toBitVec.toNat
theorem nI_un (x : Int32) : nI (un x) = x := by
  unfold nI un
  apply Int32.toBitVec_inj.mp
  simp
theorem pu_neg {m : Nat} (h : m < 2147483648) : (nI m < 0) = False := eq_false (nI_pos h)
theorem pu_nn {m : Nat} (h : m < 2147483648) : (0 ≤ nI m) = True := eq_true (nI_pos' h)
theorem pu_le {a b : Nat} (ha : a < 2147483648) (hb : b < 2147483648) : (nI a ≤ nI b) = (a ≤ b) := propext (nI_leI ha hb)
theorem pu_lt {a b : Nat} (ha : a < 2147483648) (hb : b < 2147483648) : (nI a < nI b) = (a < b) := propext (nI_ltI ha hb)
theorem pu_eq {a b : Nat} (ha : a < 2147483648) (hb : b < 2147483648) : (nI a = nI b) = (a = b) := propext (nI_eq ha hb)
theorem pl_0 : (0 : Int32) = nI 0 := Eq.trans rfl rfl
theorem pl_1 : (1 : Int32) = nI 1 := Eq.trans rfl rfl
theorem pl_2 : (2 : Int32) = nI 2 := Eq.trans rfl rfl
theorem pl_3 : (3 : Int32) = nI 3 := Eq.trans rfl rfl
theorem pl_4 : (4 : Int32) = nI 4 := Eq.trans rfl rfl
theorem pl_5 : (5 : Int32) = nI 5 := Eq.trans rfl rfl
theorem pl_6 : (6 : Int32) = nI 6 := Eq.trans rfl rfl
theorem pl_7 : (7 : Int32) = nI 7 := Eq.trans rfl rfl
theorem pl_8 : (8 : Int32) = nI 8 := Eq.trans rfl rfl
theorem pl_9 : (9 : Int32) = nI 9 := Eq.trans rfl rfl
theorem pl_10 : (10 : Int32) = nI 10 := Eq.trans rfl rfl
theorem pl_11 : (11 : Int32) = nI 11 := Eq.trans rfl rfl
theorem pl_12 : (12 : Int32) = nI 12 := Eq.trans rfl rfl
theorem pl_13 : (13 : Int32) = nI 13 := Eq.trans rfl rfl
theorem pl_14 : (14 : Int32) = nI 14 := Eq.trans rfl rfl
theorem pl_15 : (15 : Int32) = nI 15 := Eq.trans rfl rfl
theorem pl_16 : (16 : Int32) = nI 16 := Eq.trans rfl rfl
theorem pl_17 : (17 : Int32) = nI 17 := Eq.trans rfl rfl
theorem pl_18 : (18 : Int32) = nI 18 := Eq.trans rfl rfl
theorem pl_19 : (19 : Int32) = nI 19 := Eq.trans rfl rfl
theorem pl_20 : (20 : Int32) = nI 20 := Eq.trans rfl rfl
theorem pl_21 : (21 : Int32) = nI 21 := Eq.trans rfl rfl
theorem pl_30 : (30 : Int32) = nI 30 := Eq.trans rfl rfl
theorem pl_40 : (40 : Int32) = nI 40 := Eq.trans rfl rfl
theorem pl_50 : (50 : Int32) = nI 50 := Eq.trans rfl rfl
theorem pl_51 : (51 : Int32) = nI 51 := Eq.trans rfl rfl
theorem pl_60 : (60 : Int32) = nI 60 := Eq.trans rfl rfl
theorem pl_70 : (70 : Int32) = nI 70 := Eq.trans rfl rfl
theorem pl_71 : (71 : Int32) = nI 71 := Eq.trans rfl rfl
theorem pl_99 : (99 : Int32) = nI 99 := Eq.trans rfl rfl
theorem pl_100 : (100 : Int32) = nI 100 := Eq.trans rfl rfl
theorem pl_160 : (160 : Int32) = nI 160 := Eq.trans rfl rfl
theorem pl_240 : (240 : Int32) = nI 240 := Eq.trans rfl rfl
theorem pl_256 : (256 : Int32) = nI 256 := Eq.trans rfl rfl
theorem pl_300 : (300 : Int32) = nI 300 := Eq.trans rfl rfl
theorem pl_999 : (999 : Int32) = nI 999 := Eq.trans rfl rfl
theorem pl_1000 : (1000 : Int32) = nI 1000 := Eq.trans rfl rfl
theorem pl_1280 : (1280 : Int32) = nI 1280 := Eq.trans rfl rfl
theorem pl_9999 : (9999 : Int32) = nI 9999 := Eq.trans rfl rfl
theorem pl_10000 : (10000 : Int32) = nI 10000 := Eq.trans rfl rfl
theorem pu_add (a b : Nat) : nI a + nI b = nI (a + b) := nI_add a b
theorem pu_mul (a b : Nat) : nI a * nI b = nI (a * b) := pk_mul a b
theorem pu_in {m N : Nat} (h : m < N) (hN : N < 2147483648) : nm_in (nI m) N = true := by
  unfold nm_in
  rw [nI_clamp (show m < 2 ^ 31 by omega)]
  simp [nI_pos (show m < 2 ^ 31 by omega)]
  omega
theorem pu_cl {m : Nat} (h : m < 2147483648) : (nI m).toNatClampNeg = m := nI_clamp h
theorem pu_d2 : (!decide ((2 : Nat) = 0)) = true := Eq.trans rfl rfl
theorem pu_d100 : (!decide ((100 : Nat) = 0)) = true := Eq.trans rfl rfl
theorem pu_10 : (nI 1 = nI 0) = False := eq_false (by decide)
theorem pu_00 : (nI 0 = nI 0) = True := eq_true rfl
theorem pu_g {β : Type} (a : Option β) : nm_g true a = a := Eq.trans rfl rfl
theorem pu_gf {β : Type} (a : Option β) : nm_g false a = none := Eq.trans rfl rfl
theorem pu_let {β γ : Type} (x : β) (f : β → γ) : nm_let x f = f x := Eq.trans rfl rfl
theorem pu_bind {β γ : Type} (x : β) (f : β → Option γ) : (some x).bind f = f x := Eq.trans rfl rfl
theorem pu_m1 {m : Nat} (h : m < 2147483648) : (nI m = -1) = False := by
  apply eq_false
  intro e
  have := nI_pos h
  rw [e] at this
  exact this (by decide)
/-- any int: not below n, or one below n -/
theorem pu_ix (x : Int32) (n : Nat) (hn : n < 2147483648) : x < 0 ∨ nI n ≤ x ∨ ∃ j : Nat, j < n ∧ x = nI j := pk_ix x hn
theorem pu_ix0 (x : Int32) : x < 0 ∨ ∃ j : Nat, j < 2147483648 ∧ x = nI j := by
  by_cases h : x < 0
  · exact Or.inl h
  · exact Or.inr (nI_of h)
/-- loops by folds -/
def fd {β : Type} (g : Nat → β → β) (b : β) : Nat → β
  | 0 => b
  | n + 1 => g n (fd g b n)
theorem fd_succ {β : Type} (g : Nat → β → β) (b : β) (n : Nat) : fd g b (n + 1) = g n (fd g b n) := rfl
theorem fd_guard {β : Type} (g : Nat → β → β) (b : β) (c : Nat) : ∀ n, c ≤ n → fd (fun m a => if m < c then g m a else a) b n = fd g b c := by
  have key : ∀ n, n ≤ c → fd (fun m a => if m < c then g m a else a) b n = fd g b n := by
    intro n
    induction n with
    | zero => intro _; rfl
    | succ n ih => intro h; rw [fd_succ, fd_succ, ih (by omega), if_pos (by omega)]
  intro n
  induction n with
  | zero => intro h; exact key 0 (Nat.zero_le _) |>.trans (by rw [show c = 0 by omega])
  | succ n ih =>
    intro h
    by_cases hc : c = n + 1
    · rw [hc] at key ⊢
      exact key _ (Nat.le_refl _)
    · rw [fd_succ, if_neg (by omega)]
      exact ih (by omega)
theorem fd_congr {β : Type} {g g' : Nat → β → β} {b : β} : ∀ n, (∀ m a, m < n → g m a = g' m a) → fd g b n = fd g' b n := by
  intro n
  induction n with
  | zero => intro _; rfl
  | succ n ih => intro h; rw [fd_succ, fd_succ, ih (fun m a hm => h m a (by omega)), h n _ (by omega)]
/-- what holds at the start and is kept holds at the end -/
theorem fd_inv {β : Type} {g : Nat → β → β} {b : β} (P : Nat → β → Prop) (h0 : P 0 b) : ∀ n, (∀ m a, m < n → P m a → P (m + 1) (g m a)) → P n (fd g b n) := by
  intro n
  induction n with
  | zero => intro _; exact h0
  | succ n ih => intro h; exact h n _ (by omega) (ih fun m a hm => h m a (by omega))
/-- a loop that counts from 0 to N -/
theorem lp_fd {β ρ : Type} (Lf : Nat → Nat → β → ρ) (k : β → ρ) (g : Nat → β → β) (N : Nat) (P : Nat → β → Prop) (hs : ∀ n i a, i < N → P i a → Lf (n + 1) i a = Lf n (i + 1) (g i a)) (he : ∀ n a, P N a → Lf (n + 1) N a = k a) (hp : ∀ i a, i < N → P i a → P (i + 1) (g i a)) (b : β) (h0 : P 0 b) : ∀ fuel, N < fuel → Lf fuel 0 b = k (fd g b N) := by
  intro fuel hf
  have hP : ∀ i, i ≤ N → P i (fd g b i) := fun i hi => fd_inv P h0 i (fun m a hm ha => hp m a (by omega) ha)
  have key : ∀ i, i ≤ N → Lf fuel 0 b = Lf (fuel - i) i (fd g b i) := by
    intro i
    induction i with
    | zero => intro _; rfl
    | succ i ih =>
      intro hi
      rw [ih (by omega), show fuel - i = (fuel - (i + 1)) + 1 by omega, hs _ _ _ (by omega) (hP i (by omega))]
      rfl
  rw [key N (Nat.le_refl _), show fuel - N = (fuel - N - 1) + 1 by omega, he _ _ (hP N (Nat.le_refl _))]
/-- sets as bits -/
def bts (f : Nat → Bool) : Nat → Nat
  | 0 => 0
  | n + 1 => if f n then bts f n + 2 ^ n else bts f n
theorem bts_lt (f : Nat → Bool) : ∀ n, bts f n < 2 ^ n
  | 0 => by simp [bts]
  | n + 1 => by
    have ih := bts_lt f n
    unfold bts
    have : 2 ^ (n + 1) = 2 ^ n + 2 ^ n := by omega
    split <;> omega
theorem bts_tb (f : Nat → Bool) (i : Nat) : ∀ n, (bts f n).testBit i = (decide (i < n) && f i) := by
  intro n
  induction n with
  | zero => simp [bts]
  | succ n ih =>
    have hl := bts_lt f n
    unfold bts
    split
    · rename_i hf
      by_cases e : i = n
      · subst e
        rw [Nat.add_comm, Nat.testBit_two_pow_add_eq, ih]
        simp [hf]
      · rcases Nat.lt_or_ge i n with h | h
        · rw [Nat.add_comm, Nat.testBit_two_pow_add_gt h, ih]
          simp [h, show i < n + 1 by omega]
        · rw [Nat.testBit_lt_two_pow]
          · simp [show ¬ i < n + 1 by omega]
          · have h2 : 2 ^ (n + 1) ≤ 2 ^ i := Nat.pow_le_pow_right (by omega) (by omega)
            have : 2 ^ (n + 1) = 2 ^ n + 2 ^ n := by omega
            omega
    · rename_i hf
      rw [ih]
      by_cases e : i = n
      · subst e
        simp at hf
        simp [hf]
      · by_cases h : i < n
        · simp [h, show i < n + 1 by omega]
        · simp [h, show ¬ i < n + 1 by omega]
theorem bts_congr {f g : Nat → Bool} : ∀ n, (∀ i, i < n → f i = g i) → bts f n = bts g n := by
  intro n
  induction n with
  | zero => intro _; rfl
  | succ n ih => intro h; unfold bts; rw [ih (fun i hi => h i (by omega)), h n (by omega)]
/-- counting -/
def cntB (f : Nat → Bool) : Nat → Nat
  | 0 => 0
  | n + 1 => if f n then cntB f n + 1 else cntB f n
theorem cntB_le (f : Nat → Bool) : ∀ n, cntB f n ≤ n
  | 0 => Nat.le_refl _
  | n + 1 => by have := cntB_le f n; unfold cntB; split <;> omega
theorem cntB_congr {f g : Nat → Bool} : ∀ n, (∀ i, i < n → f i = g i) → cntB f n = cntB g n := by
  intro n
  induction n with
  | zero => intro _; rfl
  | succ n ih => intro h; unfold cntB; rw [ih (fun i hi => h i (by omega)), h n (by omega)]
/-- beyond c nothing is: to c is enough -/
theorem bts_to {f : Nat → Bool} {c : Nat} : ∀ n, c ≤ n → (∀ i, c ≤ i → f i = false) → bts f n = bts f c := by
  intro n
  induction n with
  | zero => intro h _; rw [show c = 0 by omega]
  | succ n ih =>
    intro h hf
    by_cases e : c = n + 1
    · rw [e]
    · rw [show bts f (n + 1) = if f n then bts f n + 2 ^ n else bts f n from rfl, hf n (by omega), if_neg (by decide)]
      exact ih (by omega) hf
theorem cntB_to {f : Nat → Bool} {c : Nat} : ∀ n, c ≤ n → (∀ i, c ≤ i → f i = false) → cntB f n = cntB f c := by
  intro n
  induction n with
  | zero => intro h _; rw [show c = 0 by omega]
  | succ n ih =>
    intro h hf
    by_cases e : c = n + 1
    · rw [e]
    · rw [show cntB f (n + 1) = if f n then cntB f n + 1 else cntB f n from rfl, hf n (by omega), if_neg (by decide)]
      exact ih (by omega) hf
/-- bits of small numbers, over Int32 -/
theorem fa_and (a b : Nat) : nI a &&& nI b = nI (a &&& b) := by
  apply Int32.toBitVec_inj.1
  show BitVec.ofNat 32 a &&& BitVec.ofNat 32 b = BitVec.ofNat 32 (a &&& b)
  apply BitVec.eq_of_getLsbD_eq
  intro i hi
  simp [hi]
theorem fa_or (a b : Nat) : nI a ||| nI b = nI (a ||| b) := by
  apply Int32.toBitVec_inj.1
  show BitVec.ofNat 32 a ||| BitVec.ofNat 32 b = BitVec.ofNat 32 (a ||| b)
  apply BitVec.eq_of_getLsbD_eq
  intro i hi
  simp [hi]
/-- one bit, by 'and' with a power of two -/
theorem fa_bit {n j : Nat} (hj : j < 31) : nI n &&& nI (2 ^ j) = 0 ↔ n.testBit j = false := by
  have h2 : (2 : Nat) ^ j < 2 ^ 31 := Nat.pow_lt_pow_right (by decide) hj
  have hle : n &&& 2 ^ j ≤ 2 ^ j := Nat.and_le_right
  have e : n &&& 2 ^ j = 0 ↔ n.testBit j = false := by
    constructor
    · intro h
      have h1 : (n &&& 2 ^ j).testBit j = false := by rw [h]; simp
      rw [Nat.testBit_and] at h1
      first | simpa using h1 | simpa [Nat.testBit_two_pow_self] using h1 | simpa [Nat.testBit_two_pow] using h1
    · intro h
      apply Nat.eq_of_testBit_eq
      intro i
      rw [Nat.testBit_and]
      by_cases hi : j = i
      · subst hi; simp [h]
      · first | (simp [Nat.testBit_two_pow, hi]; done) | (simp [Nat.testBit_two_pow_of_ne hi]; done)
  rw [fa_and]
  constructor
  · intro h
    apply e.mp
    rcases Nat.eq_zero_or_pos (n &&& 2 ^ j) with z | z
    · exact z
    · exact absurd h (nI_ne0 z (Nat.lt_of_le_of_lt hle h2))
  · intro h
    rw [e.mpr h]; exact nI_0
theorem pu_shl : ∀ m, m < 31 → nI 1 <<< (nI m &&& 31) = nI (2 ^ m) := by decide +kernel
theorem pu_orbit {b m : Nat} (h : b < 2 ^ m) : b ||| 2 ^ m = b + 2 ^ m := by
  rw [Nat.or_comm]
  have := Nat.two_pow_add_eq_or_of_lt h 1
  simp at this
  omega
theorem pu_bit {a m : Nat} (hm : m < 31) : (nI a &&& nI 1 <<< (nI m &&& 31) = nI 0) = (a.testBit m = false) := by
  rw [pu_shl m hm]
  exact propext (fa_bit hm)
