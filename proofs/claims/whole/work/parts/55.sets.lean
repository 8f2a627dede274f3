/-! all sets of some makers: the class's lists, the model's going through bits -/
def sbs (f : Nat → Bool) : Nat → List Nat
  | 0 => [0]
  | n + 1 => if f n then sbs f n ++ (sbs f n).map (fun x => 2 ^ n + x) else sbs f n
theorem sbs_t {f : Nat → Bool} {n : Nat} (h : f n = true) : sbs f (n + 1) = sbs f n ++ (sbs f n).map (fun x => 2 ^ n + x) := if_pos h
theorem sbs_f {f : Nat → Bool} {n : Nat} (h : f n = false) : sbs f (n + 1) = sbs f n := if_neg (by rw [h]; decide)
theorem sbs_len (f : Nat → Bool) : ∀ n, 1 ≤ (sbs f n).length ∧ (sbs f n).length ≤ 2 ^ n := by
  intro n
  induction n with
  | zero => exact ⟨Nat.le_refl _, Nat.le_refl _⟩
  | succ n ih =>
    have h2 : 2 ^ (n + 1) = 2 ^ n + 2 ^ n := by omega
    cases e : f n with
    | true => rw [sbs_t e, List.length_append, List.length_map]; omega
    | false => rw [sbs_f e]; omega
theorem sbs_lt (f : Nat → Bool) : ∀ n, ∀ x ∈ sbs f n, x < 2 ^ n := by
  intro n
  induction n with
  | zero => intro x hx; simp [sbs] at hx; rw [hx]; decide
  | succ n ih =>
    have h2 : 2 ^ (n + 1) = 2 ^ n + 2 ^ n := by omega
    intro x hx
    cases e : f n with
    | true =>
      rw [sbs_t e, List.mem_append, List.mem_map] at hx
      rcases hx with hx | ⟨y, hy, rfl⟩
      · have := ih x hx; omega
      · have := ih y hy; omega
    | false =>
      rw [sbs_f e] at hx
      have := ih x hx
      omega
theorem sbs_to {f : Nat → Bool} {c : Nat} : ∀ n, c ≤ n → (∀ i, c ≤ i → f i = false) → sbs f n = sbs f c := by
  intro n
  induction n with
  | zero => intro h _; rw [show c = 0 by omega]
  | succ n ih =>
    intro h hf
    by_cases e : c = n + 1
    · rw [e]
    · rw [sbs_f (hf n (by omega))]
      exact ih (by omega) hf
/-- x is a set of such -/
def suB (f : Nat → Bool) (x : Nat) : Bool := decide (andN x (bts f 8) = 0)
theorem suB_iff {f : Nat → Bool} {x : Nat} (hx : x < 256) : suB f x = true ↔ ∀ i, i < 8 → x.testBit i = true → f i = true := by
  unfold suB
  rw [decide_eq_true_iff]
  constructor
  · intro h i hi hb
    have h1 : (andN x (bts f 8)).testBit i = false := by rw [h]; simp
    rw [andN_tb (by omega), hb, bts8_tb _ hi] at h1
    simpa using h1
  · intro h
    apply Nat.eq_of_testBit_eq
    intro i
    rw [andN_tb (by omega), Nat.zero_testBit]
    by_cases hi : i < 8
    · rw [bts8_tb _ hi]
      cases hb : x.testBit i with
      | false => rfl
      | true => rw [h i hi hb]; rfl
    · rw [Nat.testBit_lt_two_pow (Nat.lt_of_lt_of_le (show x < 2 ^ 8 from hx) (Nat.pow_le_pow_right (by omega) (by omega)))]
      rfl
theorem tb_hi {n x i : Nat} (hx : x < 2 ^ n) : (2 ^ n + x).testBit i = (decide (i = n) || x.testBit i) := by
  by_cases e : i = n
  · subst e
    rw [Nat.testBit_two_pow_add_eq, Nat.testBit_lt_two_pow hx]
    simp
  · rcases Nat.lt_or_ge i n with h | h
    · rw [Nat.testBit_two_pow_add_gt h]
      simp [e]
    · have h1 : 2 ^ n + x < 2 ^ i := by
        have : 2 ^ (n + 1) ≤ 2 ^ i := Nat.pow_le_pow_right (by omega) (by omega)
        have h2 : 2 ^ (n + 1) = 2 ^ n + 2 ^ n := by omega
        omega
      have h2 : x < 2 ^ i := by omega
      rw [Nat.testBit_lt_two_pow h1, Nat.testBit_lt_two_pow h2]
      simp [e]
theorem suB_hi {f : Nat → Bool} {n x : Nat} (hn : n < 8) (hx : x < 2 ^ n) : suB f (2 ^ n + x) = (f n && suB f x) := by
  have h8 : 2 ^ (n + 1) ≤ 2 ^ 8 := Nat.pow_le_pow_right (by omega) (by omega)
  have h2 : 2 ^ (n + 1) = 2 ^ n + 2 ^ n := by omega
  rw [Bool.eq_iff_iff, Bool.and_eq_true, suB_iff (by omega), suB_iff (by omega)]
  constructor
  · intro h
    refine ⟨h n hn (by rw [tb_hi hx]; simp), fun i hi hb => h i hi (by rw [tb_hi hx, hb]; simp)⟩
  · rintro ⟨h1, h2⟩ i hi hb
    rw [tb_hi hx] at hb
    by_cases e : i = n
    · rw [e]; exact h1
    · exact h2 i hi (by simpa [e] using hb)
theorem sbs_fil (f : Nat → Bool) : ∀ n, n ≤ 8 → (List.range (2 ^ n)).filter (suB f) = sbs f n := by
  intro n
  induction n with
  | zero =>
    intro _
    have : suB f 0 = true := by rw [suB_iff (by omega)]; intro i _ h; simp at h
    show List.filter (suB f) [0] = [0]
    rw [List.filter_cons_of_pos this]; rfl
  | succ n ih =>
    intro hn
    rw [show 2 ^ (n + 1) = 2 ^ n + 2 ^ n by omega, List.range_add, List.filter_append, ih (by omega), List.filter_map]
    have e : (List.range (2 ^ n)).filter (suB f ∘ fun x => 2 ^ n + x) = (List.range (2 ^ n)).filter (fun x => f n && suB f x) := by
      apply List.filter_congr
      intro x hx
      exact suB_hi (by omega) (List.mem_range.mp hx)
    rw [e]
    cases c : f n with
    | true =>
      rw [sbs_t c, ← ih (by omega)]
      simp
    | false =>
      rw [sbs_f c]
      simp
/-- folds: over a list by its places, over all numbers that pass -/
def fdL {β : Type} (g : Nat → β → β) (L : List Nat) (b : β) : Nat → β
  | 0 => b
  | n + 1 => g (L.getD n 0) (fdL g L b n)
def fdM {β : Type} (g : Nat → β → β) (p : Nat → Bool) (b : β) : Nat → β
  | 0 => b
  | n + 1 => if p n then g n (fdM g p b n) else fdM g p b n
theorem fdM_t {β : Type} {g : Nat → β → β} {p : Nat → Bool} {b : β} {n : Nat} (h : p n = true) : fdM g p b (n + 1) = g n (fdM g p b n) := if_pos h
theorem fdM_f {β : Type} {g : Nat → β → β} {p : Nat → Bool} {b : β} {n : Nat} (h : p n = false) : fdM g p b (n + 1) = fdM g p b n := if_neg (by rw [h]; decide)
theorem fdL_eq {β : Type} (g : Nat → β → β) (L : List Nat) (b : β) : ∀ n, n ≤ L.length → fdL g L b n = (L.take n).foldl (fun a x => g x a) b := by
  intro n
  induction n with
  | zero => intro _; rfl
  | succ n ih =>
    intro h
    have hn : n < L.length := by omega
    show g (L.getD n 0) (fdL g L b n) = _
    rw [ih (by omega), List.take_succ, List.getElem?_eq_getElem hn, List.foldl_append, List.getD_eq_getElem?_getD, List.getElem?_eq_getElem hn]
    rfl
theorem fdM_eq {β : Type} (g : Nat → β → β) (p : Nat → Bool) (b : β) : ∀ n, fdM g p b n = ((List.range n).filter p).foldl (fun a x => g x a) b := by
  intro n
  induction n with
  | zero => rfl
  | succ n ih =>
    rw [List.range_succ, List.filter_append, List.foldl_append]
    cases e : p n with
    | true => rw [fdM_t e, ih, List.filter_cons_of_pos e]; rfl
    | false => rw [fdM_f e, ih, List.filter_cons_of_neg (by rw [e]; decide)]; rfl
theorem fd_same {β : Type} (g : Nat → β → β) (f : Nat → Bool) (b : β) {c : Nat} (hc : c ≤ 8) (hf : ∀ i, c ≤ i → f i = false) : fdM g (suB f) b (2 ^ c) = fdL g (sbs f 8) b (sbs f 8).length := by
  rw [fdM_eq, sbs_fil f c hc, fdL_eq _ _ _ _ (Nat.le_refl _), List.take_length, sbs_to 8 hc hf]
/-- prices together, and what is known together -/
def prF (T : is_T) (x : Nat) : Nat → Nat
  | 0 => 0
  | n + 1 => if x.testBit n then prF T x n + price T n else prF T x n
def prS (T : is_T) (x : Nat) : Nat := prF T x 8
def knS (T : is_T) (x : Nat) : Nat := orF T (fun i => x.testBit i) 8
theorem prF_le {T : is_T} (hI : IslI T) (x : Nat) : ∀ n, n ≤ 8 → prF T x n ≤ 300 * n := by
  intro n
  induction n with
  | zero => intro _; exact Nat.le_refl _
  | succ n ih =>
    intro h
    have h1 := ih (by omega)
    have h2 := price_le hI (show n < 8 by omega)
    show (if x.testBit n then prF T x n + price T n else prF T x n) ≤ _
    by_cases e : x.testBit n = true
    · rw [if_pos e]; omega
    · rw [if_neg e]; omega
theorem prS_le {T : is_T} (hI : IslI T) (x : Nat) : prS T x ≤ 2400 := prF_le hI x 8 (by omega)
theorem knS_lt {T : is_T} (hI : IslI T) (x : Nat) : knS T x < 256 := orF_lt hI _ 8 (by omega)
theorem prF_to {T : is_T} {x c : Nat} (hx : x < 2 ^ c) : ∀ n, c ≤ n → prF T x n = prF T x c := by
  intro n
  induction n with
  | zero => intro h; rw [show c = 0 by omega]
  | succ n ih =>
    intro h
    by_cases e : c = n + 1
    · rw [e]
    · have hb : x.testBit n = false := Nat.testBit_lt_two_pow (Nat.lt_of_lt_of_le hx (Nat.pow_le_pow_right (by omega) (by omega)))
      show (if x.testBit n then prF T x n + price T n else prF T x n) = _
      rw [hb]
      exact ih (by omega)
theorem prF_congr {T : is_T} {x y : Nat} : ∀ n, (∀ i, i < n → x.testBit i = y.testBit i) → prF T x n = prF T y n := by
  intro n
  induction n with
  | zero => intro _; rfl
  | succ n ih =>
    intro h
    show (if x.testBit n then prF T x n + price T n else prF T x n) = (if y.testBit n then prF T y n + price T n else prF T y n)
    rw [ih (fun i hi => h i (by omega)), h n (by omega)]
theorem prS_hi {T : is_T} {n x : Nat} (hn : n < 8) (hx : x < 2 ^ n) : prS T (2 ^ n + x) = prS T x + price T n := by
  have h2 : 2 ^ (n + 1) = 2 ^ n + 2 ^ n := by omega
  unfold prS
  rw [prF_to (c := n + 1) (by omega) 8 (by omega), prF_to (c := n) hx 8 (by omega)]
  show (if (2 ^ n + x).testBit n then prF T (2 ^ n + x) n + price T n else prF T (2 ^ n + x) n) = _
  rw [tb_hi hx]
  simp only [decide_true, Bool.true_or, if_true]
  rw [prF_congr (y := x) n (fun i hi => by rw [tb_hi hx]; simp [show ¬ i = n by omega])]
theorem knS_hi {T : is_T} {n x : Nat} (hn : n < 8) (hx : x < 2 ^ n) : knS T (2 ^ n + x) = knS T x ||| T 4 n := by
  have h2 : 2 ^ (n + 1) = 2 ^ n + 2 ^ n := by omega
  unfold knS
  rw [orF_to (c := n + 1) 8 (by omega) (fun i hi => Nat.testBit_lt_two_pow (Nat.lt_of_lt_of_le (show 2 ^ n + x < 2 ^ (n + 1) by omega) (Nat.pow_le_pow_right (by omega) hi))), orF_to (f := fun i => x.testBit i) (c := n) 8 (by omega) (fun i hi => Nat.testBit_lt_two_pow (Nat.lt_of_lt_of_le hx (Nat.pow_le_pow_right (by omega) hi)))]
  show (if (2 ^ n + x).testBit n then orF T (fun i => (2 ^ n + x).testBit i) n ||| T 4 n else _) = _
  rw [tb_hi hx]
  simp only [decide_true, Bool.true_or, if_true]
  rw [orF_congr (g := fun i => x.testBit i) n (fun i hi => by rw [tb_hi hx]; simp [show ¬ i = n by omega])]
/-- only the lists of sets have changed, the empty set ahead -/
def SeF (σ τ : nm_St) : Prop := (∀ k, (k < 23 ∨ 26 < k) → τ.1 k = σ.1 k) ∧ τ.2 = σ.2 ∧ ∀ k, 24 ≤ k → k ≤ 26 → τ.1 k 0 = σ.1 k 0
theorem SeF.rf (σ : nm_St) : SeF σ σ := ⟨fun _ _ => rfl, rfl, fun _ _ _ => rfl⟩
theorem SeF.tr {σ τ ρ : nm_St} (a : SeF σ τ) (b : SeF τ ρ) : SeF σ ρ := ⟨fun k h => (b.1 k h).trans (a.1 k h), b.2.1.trans a.2.1, fun k h1 h2 => (b.2.2 k h1 h2).trans (a.2.2 k h1 h2)⟩
theorem SeF.pI {σ τ : nm_St} (f : SeF σ τ) {a : Nat} (b : Nat) (x : Int32) (h : 23 ≤ a ∧ a ≤ 26) (h2 : a = 23 ∨ b ≠ 0) : SeF σ (nm_pI τ a b x) := ⟨fun k hk => by
  rw [← f.1 k hk]
  exact nm_up_ne _ _ _ (by omega), f.2.1, fun k h1 h3 => by
  rw [pI_ne _ _ (by omega)]
  exact f.2.2 k h1 h3⟩
theorem SeF.fr {σ τ : nm_St} (f : SeF σ τ) : Fr [0] σ τ := fun k j hk => by
  refine ⟨?_, by rw [f.2.1]⟩
  by_cases e : k < 23 ∨ 26 < k
  · rw [f.1 k e]
  · by_cases e2 : k = 23
    · subst e2
      exact absurd hk (by rw [show rg 23 j = 0 from rfl]; decide)
    · by_cases e3 : j = 0
      · subst e3
        exact f.2.2 k (by omega) (by omega)
      · exfalso
        have hr : rg k j = 0 := by
          unfold rg
          rw [if_neg (by omega), if_neg (by omega), if_neg (by omega), if_pos (by omega), if_neg e3]
        rw [hr] at hk
        exact absurd hk (by decide)
theorem IslR.sef {σ τ : nm_St} {o : Nat} {T : is_T} (h : IslR σ o T) (f : SeF σ τ) (ho : o + 6 < 23 ∨ 26 < o) : IslR τ o T := ⟨fun r j a b c => by rw [f.1 _ (by omega)]; exact h.1 r j a b c, fun j a b => by rw [f.1 _ (by omega)]; exact h.2 j a b⟩
/-- the lists hold L -/
def LA (T : is_T) (σ : nm_St) (L : List Nat) : Prop := σ.1 23 3 = nI L.length ∧ ∀ i, i < L.length → σ.1 24 i = nI (L.getD i 0) ∧ σ.1 25 i = nI (prS T (L.getD i 0)) ∧ σ.1 26 i = nI (knS T (L.getD i 0))
section LAY
variable {σ : nm_St} {o : Nat} {T : is_T}
theorem se_add (hI : IslI T) {L : List Nat} {m : Nat} (hm : m < 8) (hL : LA T σ L) (h0 : 1 ≤ L.length) (h1 : L.length ≤ 128) (hx : ∀ x ∈ L, x < 2 ^ m) : ∃ τ, Se_addMaker (nI m) (nI (price T m)) (nI (T 4 m)) σ = some ((), τ) ∧ LA T τ (L ++ L.map (fun x => 2 ^ m + x)) ∧ SeF σ τ := by
  have hpl := price_le hI hm
  unfold Se_addMaker
  simp (disch := omega) only [pl_0, pl_1, pl_2, pl_3, pl_4, pl_5, pl_6, pl_7, pl_8, pl_9, pl_10, pl_11, pl_12, pl_13, pl_14, pl_15, pl_16, pl_17, pl_18, pl_19, pl_20, pl_21, pl_30, pl_40, pl_50, pl_51, pl_60, pl_70, pl_71, pl_99, pl_100, pl_160, pl_240, pl_256, pl_300, pl_999, pl_1000, pl_1280, pl_9999, pl_10000, pu_neg, pu_nn, pu_le, pu_lt, pu_eq, pu_cl, pu_in, pu_g, ↓pu_let, ↓pu_bind, pu_m1, pu_add, pu_mul, Nat.not_lt_zero, if_false, if_true, Nat.zero_le, pu_d2, pu_d100, pu_em1, ↓reduceIte, Nat.reduceEqDiff, Nat.reduceLT, Nat.reduceLeDiff, Nat.reduceAdd, Nat.reduceMul, Nat.reduceSub, not_true_eq_false, not_false_eq_true, and_true, true_and, and_false, false_and, or_true, true_or, or_false, false_or, Nat.lt_irrefl, Nat.le_refl, Nat.add_zero, Bool.false_eq_true, ↓pu_gI, nd_le, nd_leT, nd_lt, nd_ltT, nd_eq, nd_eqT, hL.1]
  have hg : ∀ i, i < L.length → L.getD i 0 < 2 ^ m := fun i hi => by
    rw [List.getD_eq_getElem?_getD, List.getElem?_eq_getElem hi]
    exact hx _ (List.getElem_mem hi)
  refine lp_Q (fun n i (a : nm_St) => Se_addMaker_l20 _ n (nI m) (nI (price T m)) (nI (T 4 m)) (nI L.length) (nI i) a) L.length (fun i a => a.1 23 3 = nI L.length ∧ (∀ j, j < L.length → a.1 24 j = nI (L.getD j 0) ∧ a.1 25 j = nI (prS T (L.getD j 0)) ∧ a.1 26 j = nI (knS T (L.getD j 0))) ∧ (∀ j, j < i → a.1 24 (L.length + j) = nI (2 ^ m + L.getD j 0) ∧ a.1 25 (L.length + j) = nI (prS T (2 ^ m + L.getD j 0)) ∧ a.1 26 (L.length + j) = nI (knS T (2 ^ m + L.getD j 0))) ∧ SeF σ a) (fun r => ∃ τ, r = some ((), τ) ∧ LA T τ (L ++ L.map (fun x => 2 ^ m + x)) ∧ SeF σ τ) ?_ ?_ 400 0 σ (by omega) ⟨hL.1, hL.2, fun j hj => by omega, SeF.rf _⟩ (by omega)
  · intro n i a hi hp ih
    obtain ⟨p1, p2, p3, p4⟩ := hp
    obtain ⟨q1, q2, q3⟩ := p2 i hi
    have hb := hg i hi
    have hor : L.getD i 0 ||| 2 ^ m = 2 ^ m + L.getD i 0 := by rw [pu_orbit hb]; omega
    have hs := ih (nm_pI (nm_pI (nm_pI a 24 (L.length + i) (nI (2 ^ m + L.getD i 0))) 25 (L.length + i) (nI (prS T (2 ^ m + L.getD i 0)))) 26 (L.length + i) (nI (knS T (2 ^ m + L.getD i 0)))) ⟨by rw [pI_ne _ _ (by omega), pI_ne _ _ (by omega), pI_ne _ _ (by omega)]; exact p1, fun j hj => by
      rw [pI_ne _ _ (by omega), pI_ne _ _ (by omega), pI_ne _ _ (by omega), pI_ne _ _ (by omega), pI_ne _ _ (by omega), pI_ne _ _ (by omega), pI_ne _ _ (by omega), pI_ne _ _ (by omega), pI_ne _ _ (by omega)]
      exact p2 j hj, fun j hj => by
      by_cases e : j = i
      · subst e
        refine ⟨?_, ?_, ?_⟩
        · rw [pI_ne _ _ (by omega), pI_ne _ _ (by omega), pI_eq]
        · rw [pI_ne _ _ (by omega), pI_eq]
        · rw [pI_eq]
      · rw [pI_ne _ _ (by omega), pI_ne _ _ (by omega), pI_ne _ _ (by omega), pI_ne _ _ (by omega), pI_ne _ _ (by omega), pI_ne _ _ (by omega), pI_ne _ _ (by omega), pI_ne _ _ (by omega), pI_ne _ _ (by omega)]
        exact p3 j (by omega), ((p4.pI _ _ (by omega) (by omega)).pI _ _ (by omega) (by omega)).pI _ _ (by omega) (by omega)⟩
    have e1 := prS_hi (T := T) hm hb
    have e2 := knS_hi (T := T) hm hb
    simp (disch := omega) only [Se_addMaker_l20, pl_0, pl_1, pl_2, pl_3, pl_4, pl_5, pl_6, pl_7, pl_8, pl_9, pl_10, pl_11, pl_12, pl_13, pl_14, pl_15, pl_16, pl_17, pl_18, pl_19, pl_20, pl_21, pl_30, pl_40, pl_50, pl_51, pl_60, pl_70, pl_71, pl_99, pl_100, pl_160, pl_240, pl_256, pl_300, pl_999, pl_1000, pl_1280, pl_9999, pl_10000, pu_neg, pu_nn, pu_le, pu_lt, pu_eq, pu_cl, pu_in, pu_g, ↓pu_let, ↓pu_bind, pu_m1, pu_add, pu_mul, Nat.not_lt_zero, if_false, if_true, Nat.zero_le, pu_d2, pu_d100, pu_em1, ↓reduceIte, Nat.reduceEqDiff, Nat.reduceLT, Nat.reduceLeDiff, Nat.reduceAdd, Nat.reduceMul, Nat.reduceSub, not_true_eq_false, not_false_eq_true, and_true, true_and, and_false, false_and, or_true, true_or, or_false, false_or, Nat.lt_irrefl, Nat.le_refl, Nat.add_zero, Bool.false_eq_true, ↓pu_gI, nd_le, nd_leT, nd_lt, nd_ltT, nd_eq, nd_eqT, q1, q2, q3, pu_shl, fa_or, hor, pI_ne, ← e1, ← e2]
    exact hs
  · intro n a hp
    obtain ⟨p1, p2, p3, p4⟩ := hp
    simp (disch := omega) only [Se_addMaker_l20, pl_0, pl_1, pl_2, pl_3, pl_4, pl_5, pl_6, pl_7, pl_8, pl_9, pl_10, pl_11, pl_12, pl_13, pl_14, pl_15, pl_16, pl_17, pl_18, pl_19, pl_20, pl_21, pl_30, pl_40, pl_50, pl_51, pl_60, pl_70, pl_71, pl_99, pl_100, pl_160, pl_240, pl_256, pl_300, pl_999, pl_1000, pl_1280, pl_9999, pl_10000, pu_neg, pu_nn, pu_le, pu_lt, pu_eq, pu_cl, pu_in, pu_g, ↓pu_let, ↓pu_bind, pu_m1, pu_add, pu_mul, Nat.not_lt_zero, if_false, if_true, Nat.zero_le, pu_d2, pu_d100, pu_em1, ↓reduceIte, Nat.reduceEqDiff, Nat.reduceLT, Nat.reduceLeDiff, Nat.reduceAdd, Nat.reduceMul, Nat.reduceSub, not_true_eq_false, not_false_eq_true, and_true, true_and, and_false, false_and, or_true, true_or, or_false, false_or, Nat.lt_irrefl, Nat.le_refl, Nat.add_zero, Bool.false_eq_true, ↓pu_gI, nd_le, nd_leT, nd_lt, nd_ltT, nd_eq, nd_eqT]
    refine ⟨_, rfl, ⟨?_, fun i hi => ?_⟩, p4.pI _ _ (by omega) (by omega)⟩
    · rw [pI_eq, List.length_append, List.length_map]
      congr 1
      omega
    · rw [List.length_append, List.length_map] at hi
      rw [pI_ne _ _ (by omega), pI_ne _ _ (by omega), pI_ne _ _ (by omega), List.getD_eq_getElem?_getD]
      by_cases z : i < L.length
      · rw [List.getElem?_append_left z, ← List.getD_eq_getElem?_getD]
        exact p2 i z
      · rw [List.getElem?_append_right (by omega), List.getElem?_map]
        have := p3 (i - L.length) (by omega)
        rw [show L.length + (i - L.length) = i by omega] at this
        rw [List.getD_eq_getElem?_getD, List.getElem?_eq_getElem (show i - L.length < L.length by omega)] at this
        rw [List.getElem?_eq_getElem (show i - L.length < L.length by omega)]
        exact this
theorem prS_0 (T : is_T) : prS T 0 = 0 := by
  have : ∀ n, prF T 0 n = 0 := by
    intro n
    induction n with
    | zero => rfl
    | succ n ih =>
      show (if Nat.testBit 0 n then _ else _) = 0
      rw [Nat.zero_testBit]
      exact ih
  exact this 8
theorem knS_0 (T : is_T) : knS T 0 = 0 := by
  have : ∀ n, orF T (fun i => Nat.testBit 0 i) n = 0 := by
    intro n
    induction n with
    | zero => rfl
    | succ n ih =>
      show (if Nat.testBit 0 n then _ else _) = 0
      rw [Nat.zero_testBit]
      exact ih
  exact this 8
theorem se_layOut (h : IslR σ o T) (hZ : ZR σ) (hI : IslI T) (ho : o + 6 < 23 ∨ 26 < o) {f : Nat → Bool} (hf : ∀ i, T 0 6 ≤ i → f i = false) : ∃ τ, Se_layOut o (nI (bts f 8)) σ = some ((), τ) ∧ LA T τ (sbs f 8) ∧ SeF σ τ := by
  have hc := hI.1
  have hb := bts8 f
  unfold Se_layOut
  simp only [pl_0, pl_1, pl_2, pl_3, pl_4, pl_5, pl_6, pl_7, pl_8, pl_9, pl_10, pl_11, pl_12, pl_13, pl_14, pl_15, pl_16, pl_17, pl_18, pl_19, pl_20, pl_21, pl_30, pl_40, pl_50, pl_51, pl_60, pl_70, pl_71, pl_99, pl_100, pl_160, pl_240, pl_256, pl_300, pl_999, pl_1000, pl_1280, pl_9999, pl_10000, pu_let]
  have p1 := prS_0 T
  have p2 := knS_0 T
  refine lp_Q (fun n i (a : nm_St) => Se_layOut_l7 o _ n (nI (bts f 8)) (nI i) a) 8 (fun i a => LA T a (sbs f i) ∧ SeF σ a) (fun r => ∃ τ, r = some ((), τ) ∧ LA T τ (sbs f 8) ∧ SeF σ τ) ?_ ?_ 400 0 (nm_pI σ 23 3 (nI 1)) (by omega) ⟨⟨pI_eq _ _ _ _, fun i hi => ?_⟩, (SeF.rf σ).pI _ _ (by omega) (Or.inl rfl)⟩ (by omega)
  · intro n i a hi hp ih
    have hR := h.sef hp.2 ho
    cases e : f i with
    | false =>
      have hs := ih a (by rw [sbs_f e]; exact hp)
      have kb : (nI (bts f 8) &&& nI (2 ^ i) = nI 0) = True := by
        rw [pu_bit2 (by omega), bts8_tb _ hi, e]
        exact eq_true rfl
      simp (disch := omega) only [Se_layOut_l7, pl_0, pl_1, pl_2, pl_3, pl_4, pl_5, pl_6, pl_7, pl_8, pl_9, pl_10, pl_11, pl_12, pl_13, pl_14, pl_15, pl_16, pl_17, pl_18, pl_19, pl_20, pl_21, pl_30, pl_40, pl_50, pl_51, pl_60, pl_70, pl_71, pl_99, pl_100, pl_160, pl_240, pl_256, pl_300, pl_999, pl_1000, pl_1280, pl_9999, pl_10000, pu_neg, pu_nn, pu_le, pu_lt, pu_eq, pu_cl, pu_in, pu_g, ↓pu_let, ↓pu_bind, pu_m1, pu_add, pu_mul, Nat.not_lt_zero, if_false, if_true, Nat.zero_le, pu_d2, pu_d100, pu_em1, ↓reduceIte, Nat.reduceEqDiff, Nat.reduceLT, Nat.reduceLeDiff, Nat.reduceAdd, Nat.reduceMul, Nat.reduceSub, not_true_eq_false, not_false_eq_true, and_true, true_and, and_false, false_and, or_true, true_or, or_false, false_or, Nat.lt_irrefl, Nat.le_refl, Nat.add_zero, Bool.false_eq_true, ↓pu_gI, nd_le, nd_leT, nd_lt, nd_ltT, nd_eq, nd_eqT, pu_shl, kb]
      exact hs
    | true =>
      have hm : i < T 0 6 := by
        apply Nat.lt_of_not_le
        intro hle
        rw [hf i hle] at e
        cases e
      have kb : (nI (bts f 8) &&& nI (2 ^ i) = nI 0) = False := by
        rw [pu_bit2 (by omega), bts8_tb _ hi, e]
        exact eq_false (by decide)
      obtain ⟨l1, l2⟩ := sbs_len f i
      have l3 : 2 ^ i ≤ 2 ^ 7 := Nat.pow_le_pow_right (by omega) (by omega)
      obtain ⟨τ, e1, q1, q2⟩ := se_add (σ := a) hI hi hp.1 l1 (by omega) (sbs_lt f i)
      have hs := ih τ (by rw [sbs_t e]; exact ⟨q1, hp.2.tr q2⟩)
      simp (disch := omega) only [Se_layOut_l7, pl_0, pl_1, pl_2, pl_3, pl_4, pl_5, pl_6, pl_7, pl_8, pl_9, pl_10, pl_11, pl_12, pl_13, pl_14, pl_15, pl_16, pl_17, pl_18, pl_19, pl_20, pl_21, pl_30, pl_40, pl_50, pl_51, pl_60, pl_70, pl_71, pl_99, pl_100, pl_160, pl_240, pl_256, pl_300, pl_999, pl_1000, pl_1280, pl_9999, pl_10000, pu_neg, pu_nn, pu_le, pu_lt, pu_eq, pu_cl, pu_in, pu_g, ↓pu_let, ↓pu_bind, pu_m1, pu_add, pu_mul, Nat.not_lt_zero, if_false, if_true, Nat.zero_le, pu_d2, pu_d100, pu_em1, ↓reduceIte, Nat.reduceEqDiff, Nat.reduceLT, Nat.reduceLeDiff, Nat.reduceAdd, Nat.reduceMul, Nat.reduceSub, not_true_eq_false, not_false_eq_true, and_true, true_and, and_false, false_and, or_true, true_or, or_false, false_or, Nat.lt_irrefl, Nat.le_refl, Nat.add_zero, Bool.false_eq_true, ↓pu_gI, nd_le, nd_leT, nd_lt, nd_ltT, nd_eq, nd_eqT, pu_shl, kb, is_isMaker_v hR hI hm, is_priceOf hR hI hm, hR.a 4 hi, e1]
      exact hs
  · intro n a hp
    simp (disch := omega) only [Se_layOut_l7, pl_0, pl_1, pl_2, pl_3, pl_4, pl_5, pl_6, pl_7, pl_8, pl_9, pl_10, pl_11, pl_12, pl_13, pl_14, pl_15, pl_16, pl_17, pl_18, pl_19, pl_20, pl_21, pl_30, pl_40, pl_50, pl_51, pl_60, pl_70, pl_71, pl_99, pl_100, pl_160, pl_240, pl_256, pl_300, pl_999, pl_1000, pl_1280, pl_9999, pl_10000, pu_neg, pu_nn, pu_le, pu_lt, pu_eq, pu_cl, pu_in, pu_g, ↓pu_let, ↓pu_bind, pu_m1, pu_add, pu_mul, Nat.not_lt_zero, if_false, if_true, Nat.zero_le, pu_d2, pu_d100, pu_em1, ↓reduceIte, Nat.reduceEqDiff, Nat.reduceLT, Nat.reduceLeDiff, Nat.reduceAdd, Nat.reduceMul, Nat.reduceSub, not_true_eq_false, not_false_eq_true, and_true, true_and, and_false, false_and, or_true, true_or, or_false, false_or, Nat.lt_irrefl, Nat.le_refl, Nat.add_zero, Bool.false_eq_true, ↓pu_gI, nd_le, nd_leT, nd_lt, nd_ltT, nd_eq, nd_eqT]
    exact ⟨a, rfl, hp⟩
  · have hi0 : i = 0 := by
      have : i < 1 := hi
      omega
    subst hi0
    rw [pI_ne _ _ (by omega), pI_ne _ _ (by omega), pI_ne _ _ (by omega), hZ.1, hZ.2.1, hZ.2.2]
    show nI 0 = nI 0 ∧ nI 0 = nI (prS T 0) ∧ nI 0 = nI (knS T 0)
    rw [p1, p2]
    exact ⟨rfl, rfl, rfl⟩
end LAY
