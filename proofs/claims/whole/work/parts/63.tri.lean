/-! tries: places in the best order -/
def befB (w : Nat → Nat) (q p : Nat) : Bool := decide (w p < w q) || (decide (w q = w p) && decide (q < p))
theorem bef_iff {w : Nat → Nat} {q p : Nat} : befB w q p = true ↔ (w p < w q ∨ (w q = w p ∧ q < p)) := by
  unfold befB
  simp
theorem bef_f {w : Nat → Nat} {q p : Nat} : befB w q p = false ↔ ¬ (w p < w q ∨ (w q = w p ∧ q < p)) := by
  rw [← bef_iff]
  simp
def plN (w : Nat → Nat) (n p : Nat) : Nat := 1 + cntB (fun q => befB w q p) n
theorem cnt_ins {f g : Nat → Bool} {p : Nat} (hf : f p = false) (hg : g p = true) (h : ∀ i, i ≠ p → g i = f i) : ∀ n, cntB g n = if p < n then cntB f n + 1 else cntB f n := by
  intro n
  induction n with
  | zero => rfl
  | succ n ih =>
    by_cases e : n = p
    · subst e
      rw [cnt_t hg, cnt_f hf, ih, if_neg (by omega), if_pos (by omega)]
    · have hn := h n e
      cases e2 : f n with
      | true =>
        rw [cnt_t (hn.trans e2), cnt_t e2, ih]
        by_cases z : p < n
        · rw [if_pos z, if_pos (by omega)]
        · rw [if_neg z, if_neg (by omega)]
      | false =>
        rw [cnt_f (hn.trans e2), cnt_f e2, ih]
        by_cases z : p < n
        · rw [if_pos z, if_pos (by omega)]
        · rw [if_neg z, if_neg (by omega)]
theorem cnt_strict {f g : Nat → Bool} {p n : Nat} (hp : p < n) (hf : f p = false) (hg : g p = true) (h : ∀ i, f i = true → g i = true) : cntB f n < cntB g n := by
  have h1 := cnt_ins (f := f) (g := fun i => if i = p then true else f i) (p := p) hf (by simp) (fun i hi => by simp [hi]) n
  rw [if_pos hp] at h1
  have h2 : cntB (fun i => if i = p then true else f i) n ≤ cntB g n := cnt_mono (fun i hi => by
    by_cases e : i = p
    · rw [e]; exact hg
    · simp [e] at hi; exact h i hi) n
  omega
theorem cnt_all {f : Nat → Bool} : ∀ n, cntB f n = n → ∀ i, i < n → f i = true := by
  intro n h i hi
  cases e : f i with
  | true => rfl
  | false =>
    have h1 := cnt_strict (f := f) (g := fun _ => true) hi e rfl (fun _ _ => rfl)
    have h2 := cntB_le (fun _ => true) n
    omega
theorem pl_mono {w : Nat → Nat} {n p q : Nat} (hp : p < n) (h : befB w p q = true) : plN w n p < plN w n q := by
  unfold plN
  have := cnt_strict (f := fun r => befB w r p) (g := fun r => befB w r q) hp (by
    rw [bef_f]; omega) h (fun r hr => by
    have hr' : befB w r p = true := hr
    rw [bef_iff] at h hr' ⊢
    omega)
  omega
theorem pl_inj {w : Nat → Nat} {n p q : Nat} (hp : p < n) (hq : q < n) (h : plN w n p = plN w n q) : p = q := by
  by_cases e : p = q
  · exact e
  · exfalso
    by_cases b : befB w p q = true
    · have := pl_mono hp b; omega
    · have b2 : befB w q p = true := by
        rw [bef_iff]
        rw [bef_iff] at b
        omega
      have := pl_mono hq b2
      omega
theorem pl_le {w : Nat → Nat} {n p : Nat} (hp : p < n) : 1 ≤ plN w n p ∧ plN w n p ≤ n := by
  unfold plN
  have := cnt_strict (f := fun r => befB w r p) (g := fun _ => true) hp (by rw [bef_f]; omega) rfl (fun _ _ => rfl)
  have h2 := cntB_le (fun _ => true) n
  omega
/-- of those not met the first in order: his number and 1 -/
def nxG (w : Nat → Nat) (met : Nat → Bool) (p : Nat) (b : Nat) : Nat := if !met p && (decide (b = 0) || decide (w (b - 1) < w p)) then p + 1 else b
def nxS (w : Nat → Nat) (met : Nat → Bool) : Nat → Nat
  | 0 => 0
  | n + 1 => nxG w met n (nxS w met n)
theorem nxG_t {w : Nat → Nat} {met : Nat → Bool} {p b : Nat} (h : (!met p && (decide (b = 0) || decide (w (b - 1) < w p))) = true) : nxG w met p b = p + 1 := if_pos h
theorem nxG_f {w : Nat → Nat} {met : Nat → Bool} {p b : Nat} (h : (!met p && (decide (b = 0) || decide (w (b - 1) < w p))) = false) : nxG w met p b = b := if_neg (by rw [h]; decide)
theorem nx_inv {w : Nat → Nat} {met : Nat → Bool} : ∀ n, (nxS w met n = 0 ∧ ∀ p, p < n → met p = true) ∨ ∃ t, t < n ∧ nxS w met n = t + 1 ∧ met t = false ∧ ∀ p, p < n → met p = false → p = t ∨ befB w t p = true := by
  intro n
  induction n with
  | zero => exact Or.inl ⟨rfl, fun p hp => by omega⟩
  | succ n ih =>
    show (nxG w met n (nxS w met n) = 0 ∧ _) ∨ ∃ t, t < n + 1 ∧ nxG w met n (nxS w met n) = t + 1 ∧ _
    cases e : met n with
    | true =>
      rw [nxG_f (by rw [e]; rfl)]
      rcases ih with ⟨a1, a2⟩ | ⟨t, a1, a2, a3, a4⟩
      · refine Or.inl ⟨a1, fun p hp => ?_⟩
        by_cases z : p = n
        · rw [z]; exact e
        · exact a2 p (by omega)
      · refine Or.inr ⟨t, by omega, a2, a3, fun p hp hm => ?_⟩
        by_cases z : p = n
        · rw [z, e] at hm; cases hm
        · exact a4 p (by omega) hm
    | false =>
      rcases ih with ⟨a1, a2⟩ | ⟨t, a1, a2, a3, a4⟩
      · rw [nxG_t (by rw [e, a1]; rfl)]
        refine Or.inr ⟨n, by omega, rfl, e, fun p hp hm => ?_⟩
        by_cases z : p = n
        · exact Or.inl z
        · rw [a2 p (by omega)] at hm; cases hm
      · by_cases z : w t < w n
        · rw [nxG_t (by rw [e, a2, Nat.add_sub_cancel, decide_eq_true z, Bool.or_true]; rfl)]
          refine Or.inr ⟨n, by omega, rfl, e, fun p hp hm => ?_⟩
          by_cases y : p = n
          · exact Or.inl y
          · refine Or.inr ?_
            rcases a4 p (by omega) hm with rfl | h4
            · rw [bef_iff]; omega
            · rw [bef_iff] at h4 ⊢; omega
        · rw [nxG_f (by rw [e, a2, Nat.add_sub_cancel, decide_eq_false z, decide_eq_false (by omega)]; rfl)]
          refine Or.inr ⟨t, by omega, a2, a3, fun p hp hm => ?_⟩
          by_cases y : p = n
          · subst y
            exact Or.inr (by rw [bef_iff]; omega)
          · exact a4 p (by omega) hm
def metB (w : Nat → Nat) (n k p : Nat) : Bool := decide (plN w n p ≤ k)
theorem sel {w : Nat → Nat} {n : Nat} : ∀ k, k ≤ n → cntB (metB w n k) n = k ∧ (k < n → ∃ t, t < n ∧ nxS w (metB w n k) n = t + 1 ∧ plN w n t = k + 1) := by
  have step : ∀ k, k < n → cntB (metB w n k) n = k → ∃ t, t < n ∧ nxS w (metB w n k) n = t + 1 ∧ plN w n t = k + 1 := by
    intro k hk hc
    rcases nx_inv (w := w) (met := metB w n k) n with ⟨-, a2⟩ | ⟨t, a1, a2, a3, a4⟩
    · exfalso
      have : cntB (fun _ => true) n = cntB (metB w n k) n := cntB_congr n (fun i hi => (a2 i hi).symm)
      have h2 : ∀ m, cntB (fun _ => true) m = m := by
        intro m
        induction m with
        | zero => rfl
        | succ m ih => rw [cnt_t rfl, ih]
      rw [h2] at this
      omega
    · refine ⟨t, a1, a2, ?_⟩
      have ht : ¬ plN w n t ≤ k := by
        unfold metB at a3
        simpa using a3
      have e : cntB (fun q => befB w q t) n = cntB (metB w n k) n := by
        refine cntB_congr n (fun q hq => ?_)
        cases m : metB w n k q with
        | true =>
          have hq2 : plN w n q ≤ k := by
            unfold metB at m
            simpa using m
          cases b : befB w q t with
          | true => rfl
          | false =>
            exfalso
            have hne : q ≠ t := fun z => ht (z ▸ hq2)
            have b2 : befB w t q = true := by
              rw [bef_iff]
              rw [bef_f] at b
              omega
            have := pl_mono a1 b2
            omega
        | false =>
          rcases a4 q hq m with rfl | h4
          · rw [bef_f]; omega
          · rw [bef_iff] at h4
            rw [bef_f]; omega
      show 1 + cntB (fun q => befB w q t) n = k + 1
      rw [e, hc]
      omega
  intro k
  induction k with
  | zero =>
    intro _
    have h0 : cntB (metB w n 0) n = 0 := by
      have h1 := cnt_mono (f := metB w n 0) (g := fun _ => false) (fun i hi => by
        unfold metB at hi
        have : plN w n i ≤ 0 := by simpa using hi
        unfold plN at this
        omega) n
      have h2 : ∀ m, cntB (fun _ => false) m = 0 := by
        intro m
        induction m with
        | zero => rfl
        | succ m ih => rw [cnt_f rfl]; exact ih
      rw [h2] at h1
      omega
    exact ⟨h0, fun h => step 0 h h0⟩
  | succ k ih =>
    intro hk
    obtain ⟨c, hx⟩ := ih (by omega)
    obtain ⟨t, t1, t2, t3⟩ := hx (by omega)
    have c2 : cntB (metB w n (k + 1)) n = k + 1 := by
      have key : ∀ m, m ≤ n → cntB (metB w n (k + 1)) m = if t < m then cntB (metB w n k) m + 1 else cntB (metB w n k) m := by
        intro m hm
        have e1 : cntB (metB w n (k + 1)) m = cntB (fun i => if i = t then true else metB w n k i) m := cntB_congr m (fun i hi => by
          by_cases e : i = t
          · subst e
            unfold metB
            simp [t3]
          · simp only [e, if_false]
            unfold metB
            have : plN w n i ≠ k + 1 := fun q => e (pl_inj (by omega) t1 (q.trans t3.symm))
            by_cases z : plN w n i ≤ k
            · simp [z, show plN w n i ≤ k + 1 by omega]
            · simp [z, show ¬ plN w n i ≤ k + 1 by omega])
        rw [e1]
        exact cnt_ins (f := metB w n k) (p := t) (by unfold metB; simp [t3]) (by simp) (fun i hi => by simp [hi]) m
      rw [key n (Nat.le_refl _), if_pos t1, c]
    exact ⟨c2, fun h => step (k + 1) h c2⟩
/-- sums over those met -/
def smF (f : Nat → Bool) (g : Nat → Nat) : Nat → Nat
  | 0 => 0
  | n + 1 => if f n then smF f g n + g n else smF f g n
theorem sm_t {f : Nat → Bool} {g : Nat → Nat} {n : Nat} (h : f n = true) : smF f g (n + 1) = smF f g n + g n := if_pos h
theorem sm_f {f : Nat → Bool} {g : Nat → Nat} {n : Nat} (h : f n = false) : smF f g (n + 1) = smF f g n := if_neg (by rw [h]; decide)
theorem sm_congr {f f' : Nat → Bool} {g : Nat → Nat} : ∀ n, (∀ i, i < n → f i = f' i) → smF f g n = smF f' g n := by
  intro n
  induction n with
  | zero => intro _; rfl
  | succ n ih =>
    intro h
    have := h n (by omega)
    cases e : f n with
    | true => rw [sm_t e, sm_t (this ▸ e), ih (fun i hi => h i (by omega))]
    | false => rw [sm_f e, sm_f (this ▸ e), ih (fun i hi => h i (by omega))]
theorem sm_ins {f f' : Nat → Bool} {g : Nat → Nat} {p : Nat} (hf : f p = false) (hg : f' p = true) (h : ∀ i, i ≠ p → f' i = f i) : ∀ n, smF f' g n = if p < n then smF f g n + g p else smF f g n := by
  intro n
  induction n with
  | zero => rfl
  | succ n ih =>
    by_cases e : n = p
    · subst e
      rw [sm_t hg, sm_f hf, ih, if_neg (by omega), if_pos (by omega)]
    · have hn := h n e
      cases e2 : f n with
      | true =>
        rw [sm_t (hn.trans e2), sm_t e2, ih]
        by_cases z : p < n
        · rw [if_pos z, if_pos (by omega)]; omega
        · rw [if_neg z, if_neg (by omega)]
      | false =>
        rw [sm_f (hn.trans e2), sm_f e2, ih]
        by_cases z : p < n
        · rw [if_pos z, if_pos (by omega)]
        · rw [if_neg z, if_neg (by omega)]
/-- one more met -/
theorem met_succ {w : Nat → Nat} {n k t : Nat} (ht : t < n) (h : plN w n t = k + 1) : metB w n k t = false ∧ metB w n (k + 1) t = true ∧ ∀ i, i < n → i ≠ t → metB w n (k + 1) i = metB w n k i := by
  unfold metB
  refine ⟨by simp [h], by simp [h], fun i hi e => ?_⟩
  have : plN w n i ≠ k + 1 := fun q => e (pl_inj hi ht (q.trans h.symm))
  by_cases z : plN w n i ≤ k
  · simp [z, show plN w n i ≤ k + 1 by omega]
  · simp [z, show ¬ plN w n i ≤ k + 1 by omega]
theorem sm_succ {w : Nat → Nat} {n k t : Nat} (g : Nat → Nat) (ht : t < n) (h : plN w n t = k + 1) : smF (metB w n (k + 1)) g n = smF (metB w n k) g n + g t := by
  obtain ⟨m1, m2, m3⟩ := met_succ ht h
  have e1 : smF (metB w n (k + 1)) g n = smF (fun i => if i = t then true else metB w n k i) g n := sm_congr n (fun i hi => by
    by_cases e : i = t
    · rw [e, m2]; simp
    · rw [m3 i hi e]; simp [e])
  rw [e1, sm_ins (f := metB w n k) (p := t) m1 (by simp) (fun i hi => by simp [hi]), if_pos ht]
theorem bts_succ_met {w : Nat → Nat} {n k t : Nat} (hn : n ≤ 8) (ht : t < n) (h : plN w n t = k + 1) : bts (metB w n k) n ||| 2 ^ t = bts (metB w n (k + 1)) n := by
  obtain ⟨m1, m2, m3⟩ := met_succ ht h
  apply Nat.eq_of_testBit_eq
  intro i
  rw [Nat.testBit_or, bts_tb, bts_tb, Nat.testBit_two_pow]
  by_cases hi : i < n
  · by_cases e : i = t
    · subst e; simp [hi, m2]
    · rw [m3 i hi e]; simp [Ne.symm e]
  · have : t ≠ i := by omega
    simp [hi, this]
