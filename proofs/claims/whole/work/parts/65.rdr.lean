/-! texts: what they say, apart from both readers -/
def wdL (w : Nat) : List Nat := ([[112, 97, 114, 116, 115], [109, 97, 107, 101, 114], [107, 110, 111, 119, 115], [107, 105, 110], [102, 101, 97, 114], [112, 117, 114, 115, 101], [103, 111, 101, 115], [100, 105, 101, 115]] : List (List Nat)).getD w []
/-- how many letters stand from p on -/
def ltN (g : Nat → Int32) (N : Nat) : Nat → List Nat → Nat
  | _, [] => 0
  | p, c :: L => if p < N ∧ g p = nI c then ltN g N (p + 1) L + 1 else 0
theorem lt_le (g : Nat → Int32) (N : Nat) : ∀ (L : List Nat) (p : Nat), ltN g N p L ≤ L.length := by
  intro L
  induction L with
  | nil => intro p; exact Nat.le_refl _
  | cons c L ih =>
    intro p
    have := ih (p + 1)
    show (if p < N ∧ g p = nI c then ltN g N (p + 1) L + 1 else 0) ≤ L.length + 1
    split <;> omega
theorem lt_at {g : Nat → Int32} {N : Nat} : ∀ (L : List Nat) (p i : Nat), i < ltN g N p L → p + i < N ∧ g (p + i) = nI (L.getD i 0) := by
  intro L
  induction L with
  | nil => intro p i h; exact absurd h (Nat.not_lt_zero _)
  | cons c L ih =>
    intro p i h
    have e : ltN g N p (c :: L) = if p < N ∧ g p = nI c then ltN g N (p + 1) L + 1 else 0 := rfl
    by_cases z : p < N ∧ g p = nI c
    · rw [e, if_pos z] at h
      cases i with
      | zero => exact z
      | succ i =>
        have := ih (p + 1) i (by omega)
        rw [show p + 1 + i = p + (i + 1) by omega] at this
        exact this
    · rw [e, if_neg z] at h; omega
/-- where letters end: past the list, or the next isn't there -/
theorem lt_end {g : Nat → Int32} {N : Nat} : ∀ (L : List Nat) (p : Nat), ltN g N p L < L.length → ¬ (p + ltN g N p L < N ∧ g (p + ltN g N p L) = nI (L.getD (ltN g N p L) 0)) := by
  intro L
  induction L with
  | nil => intro p h; exact absurd h (Nat.not_lt_zero _)
  | cons c L ih =>
    intro p h
    have e : ltN g N p (c :: L) = if p < N ∧ g p = nI c then ltN g N (p + 1) L + 1 else 0 := rfl
    by_cases z : p < N ∧ g p = nI c
    · rw [e, if_pos z] at h ⊢
      have h2 : ltN g N (p + 1) L + 1 < L.length + 1 := h
      have := ih (p + 1) (by omega)
      rw [show p + 1 + ltN g N (p + 1) L = p + (ltN g N (p + 1) L + 1) by omega] at this
      exact this
    · rw [e, if_neg z]
      exact z
theorem wd_len : ∀ w, w < 8 → 3 ≤ (wdL w).length ∧ (wdL w).length ≤ 5 := by decide
theorem wd_c : ∀ w, w < 8 → ∀ i, i < 5 → (wdL w).getD i 0 < 128 := by decide
theorem wd_two : ∀ w, w < 8 → ∀ v, v < 8 → (wdL w).getD 0 0 = (wdL v).getD 0 0 → (wdL w).getD 1 0 = (wdL v).getD 1 0 → w = v := by decide
theorem one_word {g : Nat → Int32} {N p w v : Nat} (hw : w < 8) (hv : v < 8) (h1 : 2 ≤ ltN g N p (wdL w)) (h2 : 2 ≤ ltN g N p (wdL v)) : w = v := by
  have c := wd_c
  refine wd_two w hw v hv ?_ ?_
  · have a := (lt_at (g := g) (N := N) (wdL w) p 0 (by omega)).2
    have b := (lt_at (g := g) (N := N) (wdL v) p 0 (by omega)).2
    rw [a] at b
    have c1 := c w hw 0 (by omega)
    have c2 := c v hv 0 (by omega)
    exact (nI_eq (by omega) (by omega)).mp b
  · have a := (lt_at (g := g) (N := N) (wdL w) p 1 (by omega)).2
    have b := (lt_at (g := g) (N := N) (wdL v) p 1 (by omega)).2
    rw [a] at b
    have c1 := c w hw 1 (by omega)
    have c2 := c v hv 1 (by omega)
    exact (nI_eq (by omega) (by omega)).mp b
/-- the word that stands at p (its number and 1; 0: none) -/
def wdS (g : Nat → Int32) (N p : Nat) : Nat → Nat
  | 0 => 0
  | n + 1 => if wdS g N p n ≠ 0 then wdS g N p n else if ltN g N p (wdL n) = (wdL n).length then n + 1 else 0
/-- the most letters of one of the first n words -/
def moS (g : Nat → Int32) (N p : Nat) : Nat → Nat
  | 0 => 0
  | n + 1 => max (moS g N p n) (ltN g N p (wdL n))
theorem mo_le (g : Nat → Int32) (N p : Nat) : ∀ n, n ≤ 8 → moS g N p n ≤ 5 := by
  intro n
  induction n with
  | zero => intro _; exact Nat.zero_le _
  | succ n ih =>
    intro h
    have h1 := ih (by omega)
    have h2 := lt_le g N (wdL n) p
    have h3 := wd_len n (by omega)
    show max _ _ ≤ 5
    omega
theorem wdS_0 {g : Nat → Int32} {N p : Nat} : ∀ n, wdS g N p n = 0 → ∀ w, w < n → ltN g N p (wdL w) ≠ (wdL w).length := by
  intro n
  induction n with
  | zero => intro _ w hw; omega
  | succ n ih =>
    intro h w hw
    have e : wdS g N p (n + 1) = if wdS g N p n ≠ 0 then wdS g N p n else if ltN g N p (wdL n) = (wdL n).length then n + 1 else 0 := rfl
    rw [e] at h
    by_cases z : wdS g N p n ≠ 0
    · rw [if_pos z] at h; exact absurd h z
    · rw [if_neg z] at h
      by_cases y : ltN g N p (wdL n) = (wdL n).length
      · rw [if_pos y] at h; omega
      · by_cases x : w = n
        · rw [x]; exact y
        · exact ih (by omega) w (by omega)
theorem wdS_p {g : Nat → Int32} {N p : Nat} : ∀ n, n ≤ 8 → ∀ w, w < n → ltN g N p (wdL w) = (wdL w).length → wdS g N p n = w + 1 := by
  intro n
  induction n with
  | zero => intro _ w hw; omega
  | succ n ih =>
    intro hn w hw hf
    have e : wdS g N p (n + 1) = if wdS g N p n ≠ 0 then wdS g N p n else if ltN g N p (wdL n) = (wdL n).length then n + 1 else 0 := rfl
    have l1 := wd_len w (by omega)
    by_cases x : w = n
    · subst x
      have z : wdS g N p w = 0 := by
        by_cases q : wdS g N p w = 0
        · exact q
        · exfalso
          have hex : ∃ v, v < w ∧ ltN g N p (wdL v) = (wdL v).length := by
            apply Classical.byContradiction
            intro hno
            have : ∀ m, m ≤ w → wdS g N p m = 0 := by
              intro m
              induction m with
              | zero => intro _; rfl
              | succ m ihm =>
                intro hm
                show (if wdS g N p m ≠ 0 then wdS g N p m else if ltN g N p (wdL m) = (wdL m).length then m + 1 else 0) = 0
                rw [if_neg (by rw [ihm (by omega)]; omega), if_neg (fun h => hno ⟨m, by omega, h⟩)]
            exact q (this w (Nat.le_refl _))
          obtain ⟨v, hv, hf2⟩ := hex
          have l2 := wd_len v (by omega)
          have := one_word (g := g) (N := N) (p := p) (w := w) (v := v) (by omega) (by omega) (by omega) (by omega)
          omega
      rw [e, if_neg (by omega), if_pos hf]
    · have := ih (by omega) w (by omega) hf
      rw [e, if_pos (by omega)]
      exact this
/-- digits -/
def dgB (g : Nat → Int32) (N i : Nat) : Bool := decide (i < N) && (decide (48 ≤ un (g i)) && decide (un (g i) ≤ 57))
def nuG (g : Nat → Int32) (N : Nat) : Nat → Nat → Nat → Nat × Nat
  | 0, v, p => (v, p)
  | j + 1, v, p => if dgB g N p then nuG g N j (v * 10 + (un (g p) - 48)) (p + 1) else (v, p)
theorem nu_le (g : Nat → Int32) (N : Nat) : ∀ j v p, p ≤ N → p ≤ (nuG g N j v p).2 ∧ (nuG g N j v p).2 ≤ N ∧ (nuG g N j v p).1 ≤ 10 ^ j * v + (10 ^ j - 1) := by
  intro j
  induction j with
  | zero => intro v p hp; exact ⟨Nat.le_refl _, hp, by show v ≤ 1 * v + 0; omega⟩
  | succ j ih =>
    intro v p hp
    have e : nuG g N (j + 1) v p = if dgB g N p then nuG g N j (v * 10 + (un (g p) - 48)) (p + 1) else (v, p) := rfl
    have hpow : 1 ≤ 10 ^ j := Nat.one_le_pow _ _ (by omega)
    have e10 : 10 ^ (j + 1) = 10 ^ j * 10 := Nat.pow_succ 10 j
    cases d : dgB g N p with
    | true =>
      rw [e, d, if_pos rfl]
      unfold dgB at d
      simp only [Bool.and_eq_true, decide_eq_true_eq] at d
      obtain ⟨i1, i2, i3⟩ := ih (v * 10 + (un (g p) - 48)) (p + 1) (by omega)
      refine ⟨by omega, i2, ?_⟩
      rw [e10]
      have h9 : un (g p) - 48 ≤ 9 := by omega
      have h1 := Nat.mul_le_mul (Nat.le_refl (10 ^ j)) h9
      have h2 : 10 ^ j * (v * 10 + (un (g p) - 48)) = 10 ^ j * 10 * v + 10 ^ j * (un (g p) - 48) := by
        rw [Nat.mul_add, Nat.mul_comm v 10, Nat.mul_assoc]
      omega
    | false =>
      rw [e, d, if_neg (by decide)]
      refine ⟨Nat.le_refl _, hp, ?_⟩
      rw [e10]
      show v ≤ _
      have h1 := Nat.mul_le_mul hpow (Nat.le_refl v)
      have h2 : 10 ^ j * 10 * v = 10 * (10 ^ j * v) := by
        rw [Nat.mul_comm (10 ^ j) 10, Nat.mul_assoc]
      omega
/-- a number behind a blank at q: where it fails, or what it is and where it ends -/
def rdS (g : Nat → Int32) (N : Nat) (ok : Nat → Bool) (q : Nat) : Sum Nat (Nat × Nat) := if q < N ∧ g q = nI 32 then (if (nuG g N 4 0 (q + 1)).2 = q + 1 ∨ ok (nuG g N 4 0 (q + 1)).1 = false then .inl (q + 1) else .inr (nuG g N 4 0 (q + 1))) else .inl q
/-- may a number stand: word, which one, the first of its numbers -/
def okS (T : is_T) (w i a v : Nat) : Bool :=
  if w = 0 then decide (T 0 7 ≤ v) && decide (v ≤ 8)
  else if w = 1 then decide (v ≤ (if i = 0 then 6 else if i = 1 then 9 else 99))
  else if w = 2 then decide (v < (if i = 0 then T 0 6 else T 0 7))
  else if w = 3 then decide (v < T 0 6) && (decide (i = 0) || decide (v ≠ a))
  else if w = 4 then decide (v ≤ 99)
  else if w = 5 then true
  else if w = 6 then decide (v < T 0 6) && decide (T 6 v = 0)
  else decide (v < T 0 6) && decide (T 6 v ≠ 3)
/-- what a word does -/
def doS (T : is_T) (w a b c : Nat) : is_T :=
  if w = 0 then nm_up T 0 7 a
  else if w = 1 then addT T a b c
  else if w = 2 then leaT T a b true
  else if w = 3 then joiT T a b true
  else if w = 4 then nm_up T 0 8 a
  else if w = 5 then nm_up T 0 9 a
  else if w = 6 then nm_up T 6 a 1
  else nm_up T 6 a 3
def nuC (w : Nat) : Nat := if w = 1 then 3 else if w = 2 ∨ w = 3 then 2 else 1
/-- the numbers of a word, from the i-th at q on -/
def nsS (g : Nat → Int32) (N : Nat) (T : is_T) (w q : Nat) : Sum Nat (Nat × is_T) :=
  match rdS g N (okS T w 0 0) q with
  | .inl f => .inl f
  | .inr (a, q1) => if nuC w = 1 then .inr (q1, doS T w a 0 0) else
    match rdS g N (okS T w 1 a) q1 with
    | .inl f => .inl f
    | .inr (b, q2) => if nuC w = 2 then .inr (q2, doS T w a b 0) else
      match rdS g N (okS T w 2 a) q2 with
      | .inl f => .inl f
      | .inr (c, q3) => .inr (q3, doS T w a b c)
/-- an item at p -/
def itS (g : Nat → Int32) (N : Nat) (T : is_T) (p : Nat) : Sum Nat (Nat × is_T) := if wdS g N p 8 = 0 then .inl (p + moS g N p 8) else if wdS g N p 8 = 2 ∧ T 0 6 = 8 then .inl p else nsS g N T (wdS g N p 8 - 1) (p + (wdL (wdS g N p 8 - 1)).length)
/-- a text from p on, c items so far -/
def txS (g : Nat → Int32) (N : Nat) : Nat → Nat → is_T → Nat → Sum Nat (is_T × Nat)
  | 0, _, _, _ => .inl 0
  | k + 1, p, T, c => match itS g N T p with
    | .inl f => .inl f
    | .inr (q, V) => if q < N then (if g q = nI 59 then txS g N k (q + 1) V (c + 1) else .inl q) else .inr (V, c + 1)
theorem rd_r {g : Nat → Int32} {N q : Nat} {ok : Nat → Bool} {v q' : Nat} (hq : q ≤ N) (h : rdS g N ok q = .inr (v, q')) : q + 1 < q' ∧ q' ≤ N ∧ ok v = true ∧ v ≤ 9999 := by
  unfold rdS at h
  by_cases z : q < N ∧ g q = nI 32
  · rw [if_pos z] at h
    by_cases y : (nuG g N 4 0 (q + 1)).2 = q + 1 ∨ ok (nuG g N 4 0 (q + 1)).1 = false
    · rw [if_pos y] at h; cases h
    · rw [if_neg y] at h
      have n := nu_le g N 4 0 (q + 1) (by omega)
      injection h with h
      rw [h] at n y
      simp only at n y
      refine ⟨by omega, n.2.1, ?_, by omega⟩
      cases e : ok v with
      | true => rfl
      | false => exact absurd (Or.inr e) y
  · rw [if_neg z] at h; cases h
