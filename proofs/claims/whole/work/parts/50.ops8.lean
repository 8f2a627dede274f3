/-! rows that tell something: letters, who it was, months -/
/-- calls of all kinds on the island -/
def OkG {β : Type} (T U : is_T) (E : Nat → Nat → Int64) (f g : nm_St → Option (β × nm_St)) : Prop := ∃ n a V, n ≤ 7 ∧ IslI V ∧ T 0 6 ≤ V 0 6 ∧ (∀ σ, CF σ T U E → ∃ ρ, f σ = some (a, if n = 0 then ρ else rfC ρ n) ∧ IslR ρ 2 V ∧ Fr [0, 1] σ ρ) ∧ (∀ σ, MF σ T U E → ∃ ρ, g σ = some (a, if n = 0 then ρ else rfM ρ n) ∧ MdR ρ V ∧ Fr [10, 11] σ ρ)
theorem ok_g {β : Type} {σ : nm_St} {T U : is_T} {E : Nat → Nat → Int64} {f g : nm_St → Option (β × nm_St)} (h : RelT σ T U E) (q : OkG T U E f g) : OkB σ f g := by
  obtain ⟨n, a, V, hn, hV, hle, hC, hM⟩ := q
  by_cases h0 : n = 0
  · refine ok_m h ⟨a, V, hV, hle, fun σ hc => ?_, fun σ hc => ?_⟩
    · obtain ⟨ρ, e, i, f⟩ := hC σ hc
      rw [if_pos h0] at e
      exact ⟨ρ, e, i, f⟩
    · obtain ⟨ρ, e, i, f⟩ := hM σ hc
      rw [if_pos h0] at e
      exact ⟨ρ, e, i, f⟩
  · obtain ⟨hc, hm, hp, hx⟩ := h
    obtain ⟨ρ, e1, i1, f1⟩ := hC σ hc
    rw [if_neg h0] at e1
    have F1 : Fr [0, 1, 5] σ (rfC ρ n) := (f1.mono rfl).pI _ rfl
    obtain ⟨ρ2, e2, i2, f2⟩ := hM _ (hm.fr F1 rfl rfl rfl)
    rw [if_neg h0] at e2
    have F2 : Fr [10, 11, 15] (rfC ρ n) (rfM ρ2 n) := (f2.mono rfl).pI _ rfl
    have F : Fr [0, 1, 5, 10, 11, 15] σ (rfM ρ2 n) := (F1.mono rfl).tr (F2.mono rfl)
    have c1 : IslR (rfC ρ n) 2 V := i1.fr2 ((Fr.rf [5] ρ).pI _ rfl) rfl
    have m1 : MdR (rfM ρ2 n) V := i2.fr ((Fr.rf [15] ρ2).pI _ rfl) rfl
    refine ⟨a, _, _, e1, e2, V, U, E, ⟨c1.fr2 F2 rfl, hc.2.1.fr F rfl, hc.2.2.fr F rfl⟩, ⟨m1, hm.2.1.fr F rfl, hm.2.2.1.fr F rfl, hm.2.2.2.fr F rfl⟩, ⟨hV, fun s hs => ?_⟩, hx.1.fr F rfl rfl, ?_, ?_, hx.2.2.2.fr F rfl rfl⟩
    · have := hp.2 s hs
      exact ⟨this.1, this.2.1, fun e => by have := this.2.2 e; omega⟩
    · rw [(F 0 10 rfl).1, (F 70 6 rfl).1]; exact hx.2.1
    · intro i h1 h7
      have hr := hx.2.2.1 i h1 h7
      have a1 : (rfM ρ2 n).1 53 i = (rfC ρ n).1 53 i := (F2 53 i rfl).1
      have a2 : ∀ j, ρ2.1 71 j = σ.1 71 j := fun j => by
        rw [(f2 71 j rfl).1, (F1 71 j rfl).1]
      have a3 : ∀ j, ρ.1 53 j = σ.1 53 j := fun j => (f1 53 j rfl).1
      rw [a1]
      by_cases e : i = n
      · subst e
        unfold rfM rfC
        rw [pI_eq, pI_eq, a2, a3, hr]
      · unfold rfM rfC
        rw [pI_ne _ _ (by omega), pI_ne _ _ (by omega), a2, a3, hr]
theorem g_no {β : Type} {T U : is_T} {E : Nat → Nat → Int64} {f g : nm_St → Option (β × nm_St)} (hI : IslI T) (n : Nat) (h1 : 1 ≤ n) (h7 : n ≤ 7) {b : β} (hf : ∀ σ, CF σ T U E → f σ = some (b, rfC σ n)) (hg : ∀ σ, MF σ T U E → g σ = some (b, rfM σ n)) : OkG T U E f g := ⟨n, b, T, h7, hI, Nat.le_refl _, fun σ h => ⟨σ, by rw [if_neg (by omega)]; exact hf σ h, h.1, Fr.rf _ _⟩, fun σ h => ⟨σ, by rw [if_neg (by omega)]; exact hg σ h, h.1, Fr.rf _ _⟩⟩
/-! ints out of longs -/
def eN (E : Nat → Nat → Int64) (s i : Nat) : Int32 := Int64.toInt32 (E s i)
theorem rg_f {x : Int32} {k : Nat} (hk : k < 2147483647) (h : ¬ un x ≤ k) : x < 0 ∨ nI (k + 1) ≤ x := by
  rcases pu_ix x (k + 1) (by omega) with h1 | h1 | ⟨j, hj, rfl⟩
  · exact Or.inl h1
  · exact Or.inr h1
  · exfalso
    have : un (nI j) = j := pk_tn (by omega)
    omega
theorem rg_t (x : Int32) : x = nI (un x) := (nI_un x).symm
def allF (f : Nat → Bool) : Nat → Bool
  | 0 => true
  | n + 1 => allF f n && f n
theorem allF_t {f : Nat → Bool} {n : Nat} (h : allF f n = true) (h2 : f n = true) : allF f (n + 1) = true := by
  show (allF f n && f n) = true
  rw [h, h2]; rfl
theorem allF_f {f : Nat → Bool} {i : Nat} (h : f i = false) : ∀ n, i < n → allF f n = false := by
  intro n
  induction n with
  | zero => intro h; omega
  | succ n ih =>
    intro hi
    show (allF f n && f n) = false
    by_cases z : i = n
    · subst z; rw [h, Bool.and_false]
    · rw [ih (by omega)]; rfl
theorem allF_at {f : Nat → Bool} : ∀ n, allF f n = true → ∀ i, i < n → f i = true := by
  intro n h i hi
  cases e : f i with
  | true => rfl
  | false => rw [allF_f e n hi] at h; cases h
def wiB (E : Nat → Nat → Int64) (s k i : Nat) : Bool := decide (un (eN E s i) ≤ k)
theorem ck_le (U : is_T) (s : Nat) : ckN U s ≤ 3 := by
  unfold ckN
  repeat' split
  all_goals omega
section NUM
variable {σ : nm_St} {T U : is_T} {E : Nat → Nat → Int64}
theorem sh_num (h : CF σ T U E) (hP : PF T U) {s i : Nat} (hs : s < 8) (hi : i < U 2 s) : Sh_number (54 + 2 * s) (nI i) σ = some (eN E s i, σ) := by
  have := (hP.2 s hs).1.2.2
  unfold Sh_number eN
  simp (disch := omega) only [pl_0, pl_1, pl_2, pl_3, pl_4, pl_5, pl_6, pl_7, pl_8, pl_9, pl_10, pl_11, pl_12, pl_13, pl_14, pl_15, pl_16, pl_17, pl_18, pl_19, pl_20, pl_21, pl_30, pl_40, pl_50, pl_51, pl_60, pl_70, pl_71, pl_99, pl_100, pl_160, pl_240, pl_256, pl_300, pl_999, pl_1000, pl_1280, pl_9999, pl_10000, pu_neg, pu_nn, pu_le, pu_lt, pu_eq, pu_cl, pu_in, pu_g, ↓pu_let, ↓pu_bind, pu_m1, pu_add, pu_mul, Nat.not_lt_zero, if_false, if_true, Nat.zero_le, pu_d2, pu_d100, pu_em1, ↓reduceIte, Nat.reduceEqDiff, Nat.reduceLT, Nat.reduceLeDiff, Nat.reduceAdd, Nat.reduceMul, Nat.reduceSub, not_true_eq_false, not_false_eq_true, and_true, true_and, and_false, false_and, or_true, true_or, or_false, false_or, Nat.lt_irrefl, Nat.le_refl, Nat.add_zero, Bool.false_eq_true, ↓pu_gI, nd_le, nd_leT, nd_lt, nd_ltT, nd_eq, nd_eqT, h.size hs, h.el hs hi]
theorem md_int (h : MF σ T U E) (hP : PF T U) {s i : Nat} (hs : s < 8) (hi : i < U 2 s) : Md_intAt (nI s) (nI i) σ = some (eN E s i, σ) := by
  have := (hP.2 s hs).1.2.2
  unfold Md_intAt eN
  simp (disch := omega) only [pl_0, pl_1, pl_2, pl_3, pl_4, pl_5, pl_6, pl_7, pl_8, pl_9, pl_10, pl_11, pl_12, pl_13, pl_14, pl_15, pl_16, pl_17, pl_18, pl_19, pl_20, pl_21, pl_30, pl_40, pl_50, pl_51, pl_60, pl_70, pl_71, pl_99, pl_100, pl_160, pl_240, pl_256, pl_300, pl_999, pl_1000, pl_1280, pl_9999, pl_10000, pu_neg, pu_nn, pu_le, pu_lt, pu_eq, pu_cl, pu_in, pu_g, ↓pu_let, ↓pu_bind, pu_m1, pu_add, pu_mul, Nat.not_lt_zero, if_false, if_true, Nat.zero_le, pu_d2, pu_d100, pu_em1, ↓reduceIte, Nat.reduceEqDiff, Nat.reduceLT, Nat.reduceLeDiff, Nat.reduceAdd, Nat.reduceMul, Nat.reduceSub, not_true_eq_false, not_false_eq_true, and_true, true_and, and_false, false_and, or_true, true_or, or_false, false_or, Nat.lt_irrefl, Nat.le_refl, Nat.add_zero, Bool.false_eq_true, ↓pu_gI, nd_le, nd_leT, nd_lt, nd_ltT, nd_eq, nd_eqT, h.el hs hi]
theorem sh_within (h : CF σ T U E) (hP : PF T U) {s n k : Nat} (hs : s < 8) (hn : n ≤ U 2 s) (hk : k < 1000) : Sh_areWithin (54 + 2 * s) (nI n) (nI 0) (nI k) σ = some (nI (if allF (wiB E s k) n then 1 else 0), σ) := by
  have hsz := (hP.2 s hs).1.2.2
  unfold Sh_areWithin
  simp only [pl_0, pl_1, pl_2, pl_3, pl_4, pl_5, pl_6, pl_7, pl_8, pl_9, pl_10, pl_11, pl_12, pl_13, pl_14, pl_15, pl_16, pl_17, pl_18, pl_19, pl_20, pl_21, pl_30, pl_40, pl_50, pl_51, pl_60, pl_70, pl_71, pl_99, pl_100, pl_160, pl_240, pl_256, pl_300, pl_999, pl_1000, pl_1280, pl_9999, pl_10000]
  refine lp_Q (fun n' i (_ : Unit) => Sh_areWithin_l3 (54 + 2 * s) _ n' (nI n) (nI 0) (nI k) (nI i) σ) n (fun i _ => allF (wiB E s k) i = true) (fun r => r = some (nI (if allF (wiB E s k) n then 1 else 0), σ)) ?_ ?_ 400 0 () (by omega) rfl (by omega)
  · intro n' i _ hi hA ih
    have kN := sh_num h hP hs (show i < U 2 s by omega)
    by_cases z : un (eN E s i) ≤ k
    · have hs2 := ih () (allF_t hA (by unfold wiB; rw [decide_eq_true z]))
      rw [rg_t (eN E s i)] at kN
      simp (disch := omega) only [Sh_areWithin_l3, Nm_isWithin, pl_0, pl_1, pl_2, pl_3, pl_4, pl_5, pl_6, pl_7, pl_8, pl_9, pl_10, pl_11, pl_12, pl_13, pl_14, pl_15, pl_16, pl_17, pl_18, pl_19, pl_20, pl_21, pl_30, pl_40, pl_50, pl_51, pl_60, pl_70, pl_71, pl_99, pl_100, pl_160, pl_240, pl_256, pl_300, pl_999, pl_1000, pl_1280, pl_9999, pl_10000, pu_neg, pu_nn, pu_le, pu_lt, pu_eq, pu_cl, pu_in, pu_g, ↓pu_let, ↓pu_bind, pu_m1, pu_add, pu_mul, Nat.not_lt_zero, if_false, if_true, Nat.zero_le, pu_d2, pu_d100, pu_em1, ↓reduceIte, Nat.reduceEqDiff, Nat.reduceLT, Nat.reduceLeDiff, Nat.reduceAdd, Nat.reduceMul, Nat.reduceSub, not_true_eq_false, not_false_eq_true, and_true, true_and, and_false, false_and, or_true, true_or, or_false, false_or, Nat.lt_irrefl, Nat.le_refl, Nat.add_zero, Bool.false_eq_true, ↓pu_gI, nd_le, nd_leT, nd_lt, nd_ltT, nd_eq, nd_eqT, kN]
      exact hs2
    · rw [allF_f (i := i) (by unfold wiB; rw [decide_eq_false z]) n hi]
      rcases rg_f (by omega) z with hx | hx
      · simp (disch := omega) only [Sh_areWithin_l3, Nm_isWithin, pl_0, pl_1, pl_2, pl_3, pl_4, pl_5, pl_6, pl_7, pl_8, pl_9, pl_10, pl_11, pl_12, pl_13, pl_14, pl_15, pl_16, pl_17, pl_18, pl_19, pl_20, pl_21, pl_30, pl_40, pl_50, pl_51, pl_60, pl_70, pl_71, pl_99, pl_100, pl_160, pl_240, pl_256, pl_300, pl_999, pl_1000, pl_1280, pl_9999, pl_10000, pu_neg, pu_nn, pu_le, pu_lt, pu_eq, pu_cl, pu_in, pu_g, ↓pu_let, ↓pu_bind, pu_m1, pu_add, pu_mul, Nat.not_lt_zero, if_false, if_true, Nat.zero_le, pu_d2, pu_d100, pu_em1, ↓reduceIte, Nat.reduceEqDiff, Nat.reduceLT, Nat.reduceLeDiff, Nat.reduceAdd, Nat.reduceMul, Nat.reduceSub, not_true_eq_false, not_false_eq_true, and_true, true_and, and_false, false_and, or_true, true_or, or_false, false_or, Nat.lt_irrefl, Nat.le_refl, Nat.add_zero, Bool.false_eq_true, ↓pu_gI, nd_le, nd_leT, nd_lt, nd_ltT, nd_eq, nd_eqT, kN, ngl hx, nge hx, ngle hx, nggt hx, ngne hx]
      · simp (disch := omega) only [Sh_areWithin_l3, Nm_isWithin, pl_0, pl_1, pl_2, pl_3, pl_4, pl_5, pl_6, pl_7, pl_8, pl_9, pl_10, pl_11, pl_12, pl_13, pl_14, pl_15, pl_16, pl_17, pl_18, pl_19, pl_20, pl_21, pl_30, pl_40, pl_50, pl_51, pl_60, pl_70, pl_71, pl_99, pl_100, pl_160, pl_240, pl_256, pl_300, pl_999, pl_1000, pl_1280, pl_9999, pl_10000, pu_neg, pu_nn, pu_le, pu_lt, pu_eq, pu_cl, pu_in, pu_g, ↓pu_let, ↓pu_bind, pu_m1, pu_add, pu_mul, Nat.not_lt_zero, if_false, if_true, Nat.zero_le, pu_d2, pu_d100, pu_em1, ↓reduceIte, Nat.reduceEqDiff, Nat.reduceLT, Nat.reduceLeDiff, Nat.reduceAdd, Nat.reduceMul, Nat.reduceSub, not_true_eq_false, not_false_eq_true, and_true, true_and, and_false, false_and, or_true, true_or, or_false, false_or, Nat.lt_irrefl, Nat.le_refl, Nat.add_zero, Bool.false_eq_true, ↓pu_gI, nd_le, nd_leT, nd_lt, nd_ltT, nd_eq, nd_eqT, kN, bgl hx, bge hx, bgle hx, bggt hx, bgne hx, bgm1 hx]
  · intro n' _ hA
    simp (disch := omega) only [Sh_areWithin_l3, pl_0, pl_1, pl_2, pl_3, pl_4, pl_5, pl_6, pl_7, pl_8, pl_9, pl_10, pl_11, pl_12, pl_13, pl_14, pl_15, pl_16, pl_17, pl_18, pl_19, pl_20, pl_21, pl_30, pl_40, pl_50, pl_51, pl_60, pl_70, pl_71, pl_99, pl_100, pl_160, pl_240, pl_256, pl_300, pl_999, pl_1000, pl_1280, pl_9999, pl_10000, pu_neg, pu_nn, pu_le, pu_lt, pu_eq, pu_cl, pu_in, pu_g, ↓pu_let, ↓pu_bind, pu_m1, pu_add, pu_mul, Nat.not_lt_zero, if_false, if_true, Nat.zero_le, pu_d2, pu_d100, pu_em1, ↓reduceIte, Nat.reduceEqDiff, Nat.reduceLT, Nat.reduceLeDiff, Nat.reduceAdd, Nat.reduceMul, Nat.reduceSub, not_true_eq_false, not_false_eq_true, and_true, true_and, and_false, false_and, or_true, true_or, or_false, false_or, Nat.lt_irrefl, Nat.le_refl, Nat.add_zero, Bool.false_eq_true, ↓pu_gI, nd_le, nd_leT, nd_lt, nd_ltT, nd_eq, nd_eqT, hA]
/-- why n elements of a shelf can't be had (0: they can) -/
def cfN (U : is_T) (s n : Nat) : Nat := if ckN U s ≠ 0 then ckN U s else if U 2 s < n then 5 else 0
theorem nm_cf (h : CF σ T U E) (hP : PF T U) {s n : Nat} (hs : s < 8) (hn : n < 2147483648) : Nm_checkFirst (nI s) (nI n) σ = some (if cfN U s n = 0 then nI 0 else -nI (cfN U s n), σ) := by
  have hsz := (hP.2 s hs).1.2.2
  have k := nm_ck h hP hs
  unfold Nm_checkFirst cfN
  by_cases c : ckN U s = 0
  · rw [if_pos c] at k
    refine (bn0 k).trans ?_
    simp (disch := omega) only [pl_0, pl_1, pl_2, pl_3, pl_4, pl_5, pl_6, pl_7, pl_8, pl_9, pl_10, pl_11, pl_12, pl_13, pl_14, pl_15, pl_16, pl_17, pl_18, pl_19, pl_20, pl_21, pl_30, pl_40, pl_50, pl_51, pl_60, pl_70, pl_71, pl_99, pl_100, pl_160, pl_240, pl_256, pl_300, pl_999, pl_1000, pl_1280, pl_9999, pl_10000, pu_neg, pu_nn, pu_le, pu_lt, pu_eq, pu_cl, pu_in, pu_g, ↓pu_let, ↓pu_bind, pu_m1, pu_add, pu_mul, Nat.not_lt_zero, if_false, if_true, Nat.zero_le, pu_d2, pu_d100, pu_em1, ↓reduceIte, Nat.reduceEqDiff, Nat.reduceLT, Nat.reduceLeDiff, Nat.reduceAdd, Nat.reduceMul, Nat.reduceSub, not_true_eq_false, not_false_eq_true, and_true, true_and, and_false, false_and, or_true, true_or, or_false, false_or, Nat.lt_irrefl, Nat.le_refl, Nat.add_zero, Bool.false_eq_true, ↓pu_gI, nd_le, nd_leT, nd_lt, nd_ltT, nd_eq, nd_eqT, sf_n, h.size hs, c]
    by_cases z : n ≤ U 2 s
    · simp [z, Nat.not_lt.mpr z]
    · simp [z, Nat.lt_of_not_le z]
  · rw [if_neg c] at k
    have hc := ck_le U s
    refine (bnr k (by omega) (by omega)).trans ?_
    simp [c]
theorem nm_cf_neg (h : CF σ T U E) (hP : PF T U) {s : Nat} {x : Int32} (hs : s < 8) (hx : x < 0) : Nm_checkFirst (nI s) x σ = some (if ckN U s = 0 then -nI 4 else -nI (ckN U s), σ) := by
  have k := nm_ck h hP hs
  unfold Nm_checkFirst
  by_cases c : ckN U s = 0
  · rw [if_pos c] at k
    refine (bn0 k).trans ?_
    simp (disch := omega) only [pl_0, pl_1, pl_2, pl_3, pl_4, pl_5, pl_6, pl_7, pl_8, pl_9, pl_10, pl_11, pl_12, pl_13, pl_14, pl_15, pl_16, pl_17, pl_18, pl_19, pl_20, pl_21, pl_30, pl_40, pl_50, pl_51, pl_60, pl_70, pl_71, pl_99, pl_100, pl_160, pl_240, pl_256, pl_300, pl_999, pl_1000, pl_1280, pl_9999, pl_10000, pu_neg, pu_nn, pu_le, pu_lt, pu_eq, pu_cl, pu_in, pu_g, ↓pu_let, ↓pu_bind, pu_m1, pu_add, pu_mul, Nat.not_lt_zero, if_false, if_true, Nat.zero_le, pu_d2, pu_d100, pu_em1, ↓reduceIte, Nat.reduceEqDiff, Nat.reduceLT, Nat.reduceLeDiff, Nat.reduceAdd, Nat.reduceMul, Nat.reduceSub, not_true_eq_false, not_false_eq_true, and_true, true_and, and_false, false_and, or_true, true_or, or_false, false_or, Nat.lt_irrefl, Nat.le_refl, Nat.add_zero, Bool.false_eq_true, ↓pu_gI, nd_le, nd_leT, nd_lt, nd_ltT, nd_eq, nd_eqT, ngl hx, nge hx, ngle hx, nggt hx, ngne hx, c]
  · rw [if_neg c] at k
    have hc := ck_le U s
    refine (bnr k (by omega) (by omega)).trans ?_
    simp [c]
theorem nm_cf_bad {p x : Int32} (hp : p < 0 ∨ nI 8 ≤ p) : Nm_checkFirst p x σ = some (-nI 1, σ) := by
  have k : Nm_checkRow p σ = some (-nI 1, σ) := hp.elim nm_ck_lo nm_ck_hi
  unfold Nm_checkFirst
  exact (bnr k (by omega) (by omega)).trans rfl
theorem md_bars (h : MF σ T U E) (hP : PF T U) {s n : Nat} (hs : s < 8) (hn : n < 2147483648) : Md_barsOf (nI s) (nI n) σ = some (if cfN U s n = 0 then (if n ≤ 40 then nI 0 else -nI 6) else -nI (cfN U s n), σ) := by
  have hsz := (hP.2 s hs).1.2.2
  have k := md_ck h hP hs
  have hl := ck_le U s
  unfold Md_barsOf cfN
  by_cases c : ckN U s = 0
  · have e0 : U 0 s = 1 := by
      have := (hP.2 s hs).1.1
      unfold ckN at c
      by_cases a : U 0 s = 2
      · rw [if_pos a] at c; omega
      · rw [if_neg a] at c
        by_cases b : U 0 s = 0
        · rw [if_pos b] at c; omega
        · omega
    rw [if_pos c] at k
    refine (bn0 k).trans ?_
    simp (disch := omega) only [pl_0, pl_1, pl_2, pl_3, pl_4, pl_5, pl_6, pl_7, pl_8, pl_9, pl_10, pl_11, pl_12, pl_13, pl_14, pl_15, pl_16, pl_17, pl_18, pl_19, pl_20, pl_21, pl_30, pl_40, pl_50, pl_51, pl_60, pl_70, pl_71, pl_99, pl_100, pl_160, pl_240, pl_256, pl_300, pl_999, pl_1000, pl_1280, pl_9999, pl_10000, pu_neg, pu_nn, pu_le, pu_lt, pu_eq, pu_cl, pu_in, pu_g, ↓pu_let, ↓pu_bind, pu_m1, pu_add, pu_mul, Nat.not_lt_zero, if_false, if_true, Nat.zero_le, pu_d2, pu_d100, pu_em1, ↓reduceIte, Nat.reduceEqDiff, Nat.reduceLT, Nat.reduceLeDiff, Nat.reduceAdd, Nat.reduceMul, Nat.reduceSub, not_true_eq_false, not_false_eq_true, and_true, true_and, and_false, false_and, or_true, true_or, or_false, false_or, Nat.lt_irrefl, Nat.le_refl, Nat.add_zero, Bool.false_eq_true, ↓pu_gI, nd_le, nd_leT, nd_lt, nd_ltT, nd_eq, nd_eqT, h.size hs e0, c]
    by_cases z : n ≤ U 2 s
    · by_cases z2 : n ≤ 40 <;> simp [z, z2, Nat.not_lt.mpr z]
    · simp [z, Nat.lt_of_not_le z]
  · rw [if_neg c] at k
    refine (bnr k (by omega) (by omega)).trans ?_
    simp [c]
theorem md_bars_neg (h : MF σ T U E) (hP : PF T U) {s : Nat} {x : Int32} (hs : s < 8) (hx : x < 0) : Md_barsOf (nI s) x σ = some (if ckN U s = 0 then -nI 4 else -nI (ckN U s), σ) := by
  have k := md_ck h hP hs
  have hl := ck_le U s
  unfold Md_barsOf
  by_cases c : ckN U s = 0
  · rw [if_pos c] at k
    refine (bn0 k).trans ?_
    simp (disch := omega) only [pl_0, pl_1, pl_2, pl_3, pl_4, pl_5, pl_6, pl_7, pl_8, pl_9, pl_10, pl_11, pl_12, pl_13, pl_14, pl_15, pl_16, pl_17, pl_18, pl_19, pl_20, pl_21, pl_30, pl_40, pl_50, pl_51, pl_60, pl_70, pl_71, pl_99, pl_100, pl_160, pl_240, pl_256, pl_300, pl_999, pl_1000, pl_1280, pl_9999, pl_10000, pu_neg, pu_nn, pu_le, pu_lt, pu_eq, pu_cl, pu_in, pu_g, ↓pu_let, ↓pu_bind, pu_m1, pu_add, pu_mul, Nat.not_lt_zero, if_false, if_true, Nat.zero_le, pu_d2, pu_d100, pu_em1, ↓reduceIte, Nat.reduceEqDiff, Nat.reduceLT, Nat.reduceLeDiff, Nat.reduceAdd, Nat.reduceMul, Nat.reduceSub, not_true_eq_false, not_false_eq_true, and_true, true_and, and_false, false_and, or_true, true_or, or_false, false_or, Nat.lt_irrefl, Nat.le_refl, Nat.add_zero, Bool.false_eq_true, ↓pu_gI, nd_le, nd_leT, nd_lt, nd_ltT, nd_eq, nd_eqT, ngl hx, nge hx, ngle hx, nggt hx, ngne hx, c]
  · rw [if_neg c] at k
    refine (bnr k (by omega) (by omega)).trans ?_
    simp [c]
theorem md_bars_bad {p x : Int32} (hp : p < 0 ∨ nI 8 ≤ p) : Md_barsOf p x σ = some (-nI 1, σ) := by
  have k : Md_wanted p σ = some (-nI 1, σ) := hp.elim md_ck_lo md_ck_hi
  unfold Md_barsOf
  exact (bnr k (by omega) (by omega)).trans rfl
theorem cf_1 {U : is_T} {s n : Nat} (hP : PF T U) (hs : s < 8) (h : cfN U s n = 0) : U 0 s = 1 ∧ n ≤ U 2 s := by
  unfold cfN at h
  have := (hP.2 s hs).1.1
  by_cases c : ckN U s = 0
  · rw [if_neg (by omega)] at h
    unfold ckN at c
    refine ⟨?_, ?_⟩
    · by_cases a : U 0 s = 2
      · rw [if_pos a] at c; omega
      · rw [if_neg a] at c
        by_cases b : U 0 s = 0
        · rw [if_pos b] at c; omega
        · omega
    · by_cases z : U 2 s < n
      · rw [if_pos z] at h; omega
      · omega
  · rw [if_pos c] at h; omega
theorem cf_le (U : is_T) (s n : Nat) : cfN U s n ≤ 5 := by
  have := ck_le U s
  unfold cfN
  repeat' split
  all_goals omega
end NUM
