/-! the council, the model's side -/
/-- what the model's cells say of the best -/
def JB (n : Nat) (a : nm_St) (b : Nat × Nat × Nat) : Prop := (a.1 70 33 = nI b.1 - nI 1 ∧ b.1 ≤ 10001) ∧ (b.1 ≠ 0 → (1 ≤ n → a.1 91 0 = nI b.2.1) ∧ (2 ≤ n → a.1 91 1 = nI b.2.2))
theorem JB.cg {n : Nat} {a a' : nm_St} {b : Nat × Nat × Nat} (h : JB n a b) (f1 : a'.1 70 33 = a.1 70 33) (f2 : a'.1 91 = a.1 91) : JB n a' b := by
  unfold JB
  rw [f1, f2]
  exact h
section CM
variable {σ : nm_St} {T : is_T}
theorem md_costNow (h : MdR σ T) (hI : IslI T) : Md_costNow σ = some (nI (ctS T), σ) := by
  have hc := hI.1
  have hq := hI.2.2.2.1
  have h2p := pu_p2 hc
  have km := md_cheapestSet h hI
  have hle := ch_le (T := T) (suB (atB T 0)) (2 ^ T 0 6)
  unfold Md_costNow ctS
  by_cases b0 : chS T = 0
  · rw [b0, pu_01] at km
    simp (disch := omega) only [pl_0, pl_1, pl_2, pl_3, pl_4, pl_5, pl_6, pl_7, pl_8, pl_9, pl_10, pl_11, pl_12, pl_13, pl_14, pl_15, pl_16, pl_17, pl_18, pl_19, pl_20, pl_21, pl_30, pl_40, pl_50, pl_51, pl_60, pl_70, pl_71, pl_99, pl_100, pl_160, pl_240, pl_256, pl_300, pl_999, pl_1000, pl_1280, pl_9999, pl_10000, pu_neg, pu_nn, pu_le, pu_lt, pu_eq, pu_cl, pu_in, pu_g, ↓pu_let, ↓pu_bind, pu_m1, pu_add, pu_mul, Nat.not_lt_zero, if_false, if_true, Nat.zero_le, pu_d2, pu_d100, pu_em1, ↓reduceIte, Nat.reduceEqDiff, Nat.reduceLT, Nat.reduceLeDiff, Nat.reduceAdd, Nat.reduceMul, Nat.reduceSub, not_true_eq_false, not_false_eq_true, and_true, true_and, and_false, false_and, or_true, true_or, or_false, false_or, Nat.lt_irrefl, Nat.le_refl, Nat.add_zero, Bool.false_eq_true, ↓pu_gI, nd_le, nd_leT, nd_lt, nd_ltT, nd_eq, nd_eqT, km]
  · obtain ⟨x, hx⟩ : ∃ x, chS T = x + 1 := ⟨chS T - 1, by omega⟩
    have hx2 : x < 2 ^ T 0 6 := by unfold chS at hx; omega
    have hpr := prS_le hI x
    rw [hx, pu_pred] at km
    rw [hx, if_neg (by omega), Nat.add_sub_cancel]
    have kp := md_prices h hI hx2
    by_cases z : T 0 9 < prS T x
    · simp (disch := omega) only [pl_0, pl_1, pl_2, pl_3, pl_4, pl_5, pl_6, pl_7, pl_8, pl_9, pl_10, pl_11, pl_12, pl_13, pl_14, pl_15, pl_16, pl_17, pl_18, pl_19, pl_20, pl_21, pl_30, pl_40, pl_50, pl_51, pl_60, pl_70, pl_71, pl_99, pl_100, pl_160, pl_240, pl_256, pl_300, pl_999, pl_1000, pl_1280, pl_9999, pl_10000, pu_neg, pu_nn, pu_le, pu_lt, pu_eq, pu_cl, pu_in, pu_g, ↓pu_let, ↓pu_bind, pu_m1, pu_add, pu_mul, Nat.not_lt_zero, if_false, if_true, Nat.zero_le, pu_d2, pu_d100, pu_em1, ↓reduceIte, Nat.reduceEqDiff, Nat.reduceLT, Nat.reduceLeDiff, Nat.reduceAdd, Nat.reduceMul, Nat.reduceSub, not_true_eq_false, not_false_eq_true, and_true, true_and, and_false, false_and, or_true, true_or, or_false, false_or, Nat.lt_irrefl, Nat.le_refl, Nat.add_zero, Bool.false_eq_true, ↓pu_gI, nd_le, nd_leT, nd_lt, nd_ltT, nd_eq, nd_eqT, km, kp, h.q]
    · simp (disch := omega) only [pl_0, pl_1, pl_2, pl_3, pl_4, pl_5, pl_6, pl_7, pl_8, pl_9, pl_10, pl_11, pl_12, pl_13, pl_14, pl_15, pl_16, pl_17, pl_18, pl_19, pl_20, pl_21, pl_30, pl_40, pl_50, pl_51, pl_60, pl_70, pl_71, pl_99, pl_100, pl_160, pl_240, pl_256, pl_300, pl_999, pl_1000, pl_1280, pl_9999, pl_10000, pu_neg, pu_nn, pu_le, pu_lt, pu_eq, pu_cl, pu_in, pu_g, ↓pu_let, ↓pu_bind, pu_m1, pu_add, pu_mul, Nat.not_lt_zero, if_false, if_true, Nat.zero_le, pu_d2, pu_d100, pu_em1, ↓reduceIte, Nat.reduceEqDiff, Nat.reduceLT, Nat.reduceLeDiff, Nat.reduceAdd, Nat.reduceMul, Nat.reduceSub, not_true_eq_false, not_false_eq_true, and_true, true_and, and_false, false_and, or_true, true_or, or_false, false_or, Nat.lt_irrefl, Nat.le_refl, Nat.add_zero, Bool.false_eq_true, ↓pu_gI, nd_le, nd_leT, nd_lt, nd_ltT, nd_eq, nd_eqT, km, kp, h.q]
/-- what a deeper step does with the best -/
def MRec (rec : Int32 → Int32 → nm_St → Option (Unit × nm_St)) (c k n f : Nat) (G : is_T → Nat → Nat × Nat × Nat → Nat × Nat × Nat) : Prop := ∀ (A : is_T) (a : nm_St) (b : Nat × Nat × Nat) (v : Nat), IslI A → A 0 6 = c → MdR a A → JB n a b → (1 ≤ k → a.1 90 0 = nI f) → a.1 90 k = nI v → ∃ a', rec (nI (k + 1)) (nI n) a = some ((), a') ∧ MdR a' A ∧ JB n a' (G A v b) ∧ (1 ≤ k → a'.1 90 0 = nI f) ∧ Fr [10, 11] a a'
theorem mv_sh {A : is_T} {w m : Nat} (hw : w < 2) (hm : m < 10) : mvB A (10 + 10 * w + m) = atB A w m ∧ mvT A (10 + 10 * w + m) = sufT A m w := by
  have e1 : (10 + 10 * w + m) % 10 = m := by omega
  have e2 : (10 + 10 * w + m) / 10 - 1 = w := by omega
  refine ⟨?_, ?_⟩
  · unfold mvB
    rw [e1, e2]
    simp [show 10 ≤ 10 + 10 * w + m by omega]
  · unfold mvT
    rw [if_neg (by omega), e1, e2]
/-- one kind of deeds, for those below n -/
def dwG (A : is_T) (G : is_T → Nat → Nat × Nat × Nat → Nat × Nat × Nat) (w : Nat) (b : Nat × Nat × Nat) (n : Nat) : Nat × Nat × Nat := fdM (fun m b => G (sufT A m w) (10 + 10 * w + m) b) (atB A w) b n
theorem dw_to {A : is_T} {G : is_T → Nat → Nat × Nat × Nat → Nat × Nat × Nat} {w : Nat} {b : Nat × Nat × Nat} {c : Nat} (hc : A 0 6 = c) : ∀ n, c ≤ n → dwG A G w b n = dwG A G w b c := by
  intro n
  induction n with
  | zero => intro h; rw [show c = 0 by omega]
  | succ n ih =>
    intro h
    by_cases e : c = n + 1
    · rw [e]
    · unfold dwG at ih ⊢
      rw [fdM_f (at_out (by omega))]
      exact ih (by omega)
theorem all_mv {A : is_T} {G : is_T → Nat → Nat × Nat × Nat → Nat × Nat × Nat} {b : Nat × Nat × Nat} {c : Nat} (hc : A 0 6 = c) (hc8 : c ≤ 8) : fdM (fun v b => G (mvT A v) v b) (mvB A) b 30 = dwG A G 1 (dwG A G 0 (G A 0 b) c) c := by
  have m0 : mvB A 0 = true := rfl
  have t0 : mvT A 0 = A := if_pos (by omega)
  have s1 : ∀ n, n ≤ 9 → fdM (fun v b => G (mvT A v) v b) (mvB A) b (n + 1) = G A 0 b := by
    intro n
    induction n with
    | zero => intro _; rw [fdM_t m0, t0]; rfl
    | succ n ih =>
      intro h
      have : mvB A (n + 1) = false := by
        unfold mvB
        simp [show ¬ 10 ≤ n + 1 by omega]
      rw [fdM_f this]
      exact ih (by omega)
  have s2 : ∀ n, n ≤ 10 → fdM (fun v b => G (mvT A v) v b) (mvB A) b (10 + n) = dwG A G 0 (G A 0 b) n := by
    intro n
    induction n with
    | zero => intro _; exact s1 9 (by omega)
    | succ n ih =>
      intro h
      obtain ⟨k1, k2⟩ := mv_sh (A := A) (w := 0) (m := n) (by omega) (by omega)
      rw [show 10 + 10 * 0 + n = 10 + n by omega] at k1 k2
      rw [show 10 + (n + 1) = (10 + n) + 1 by omega]
      unfold dwG
      cases e : atB A 0 n with
      | true =>
        rw [fdM_t (k1.trans e), ih (by omega), k2, fdM_t e]
        rfl
      | false =>
        rw [fdM_f (k1.trans e), ih (by omega), fdM_f e]
        rfl
  have s3 : ∀ n, n ≤ 10 → fdM (fun v b => G (mvT A v) v b) (mvB A) b (20 + n) = dwG A G 1 (dwG A G 0 (G A 0 b) 10) n := by
    intro n
    induction n with
    | zero => intro _; exact s2 10 (by omega)
    | succ n ih =>
      intro h
      obtain ⟨k1, k2⟩ := mv_sh (A := A) (w := 1) (m := n) (by omega) (by omega)
      rw [show 10 + 10 * 1 + n = 20 + n by omega] at k1 k2
      rw [show 20 + (n + 1) = (20 + n) + 1 by omega]
      have un : ∀ b' n', dwG A G 1 b' (n' + 1) = if atB A 1 n' then G (sufT A n' 1) (10 + 10 * 1 + n') (dwG A G 1 b' n') else dwG A G 1 b' n' := fun _ _ => rfl
      rw [un]
      cases e : atB A 1 n with
      | true =>
        rw [fdM_t (k1.trans e), ih (by omega), k2, if_pos rfl]
      | false =>
        rw [fdM_f (k1.trans e), ih (by omega), if_neg (by decide)]
  rw [show (30 : Nat) = 20 + 10 from rfl, s3 10 (by omega), dw_to hc 10 (by omega), dw_to hc 10 (by omega)]
theorem undo {A : is_T} {m w : Nat} : nm_up (nm_up (sufT A m w) 6 m (A 6 m)) 0 8 (A 0 8) = A := by
  funext r j
  unfold sufT
  simp only [up_at]
  by_cases a : r = 0 ∧ j = 8
  · rw [if_pos a, a.1, a.2]
  · rw [if_neg a]
    by_cases b : r = 6 ∧ j = m
    · rw [if_pos b, b.1, b.2]
    · rw [if_neg b, if_neg a, if_neg b]
theorem cn_mloop (rec : Int32 → Int32 → nm_St → Option (Unit × nm_St)) (K : Int32 → Int32 → Int32 → nm_St → Option (Unit × nm_St)) {k n f w : Nat} {G : is_T → Nat → Nat × Nat × Nat → Nat × Nat × Nat} {A : is_T} (hA : IslI A) (hR : MRec rec (A 0 6) k n f G) (hk : k < 2) (hw : w < 2) {b : Nat × Nat × Nat} (hm : MdR σ A) (hj : JB n σ b) (hf : 1 ≤ k → σ.1 90 0 = nI f) (Q : Option (Unit × nm_St) → Prop) (hK : ∀ a, MdR a A → JB n a (dwG A G w b (A 0 6)) → (1 ≤ k → a.1 90 0 = nI f) → Fr [10, 11] σ a → Q (K (nI k) (nI n) (nI w) a)) : Q (Md_counsels_l79 rec K 400 (nI k) (nI n) (nI w) (nI 0) σ) := by
  have hc := hA.1
  refine lp_Q (fun q m (a : nm_St) => Md_counsels_l79 rec K q (nI k) (nI n) (nI w) (nI m) a) (A 0 6) (fun m a => MdR a A ∧ JB n a (dwG A G w b m) ∧ (1 ≤ k → a.1 90 0 = nI f) ∧ Fr [10, 11] σ a) Q ?_ ?_ 400 0 σ (by omega) ⟨hm, hj, hf, Fr.rf _ _⟩ (by omega)
  · intro q m a hml hp ih
    obtain ⟨p1, p2, p3, p4⟩ := hp
    have kd := md_mayDeed p1 hA hml (show w < 3 by omega)
    have un : dwG A G w b (m + 1) = if atB A w m then G (sufT A m w) (10 + 10 * w + m) (dwG A G w b m) else dwG A G w b m := rfl
    cases e : atB A w m with
    | false =>
      rw [e] at kd un
      rw [if_neg (by decide)] at un kd
      have hs := ih a ⟨p1, by rw [un]; exact p2, p3, p4⟩
      simp (disch := omega) only [Md_counsels_l79, pl_0, pl_1, pl_2, pl_3, pl_4, pl_5, pl_6, pl_7, pl_8, pl_9, pl_10, pl_11, pl_12, pl_13, pl_14, pl_15, pl_16, pl_17, pl_18, pl_19, pl_20, pl_21, pl_30, pl_40, pl_50, pl_51, pl_60, pl_70, pl_71, pl_99, pl_100, pl_160, pl_240, pl_256, pl_300, pl_999, pl_1000, pl_1280, pl_9999, pl_10000, pu_neg, pu_nn, pu_le, pu_lt, pu_eq, pu_cl, pu_in, pu_g, ↓pu_let, ↓pu_bind, pu_m1, pu_add, pu_mul, Nat.not_lt_zero, if_false, if_true, Nat.zero_le, pu_d2, pu_d100, pu_em1, ↓reduceIte, Nat.reduceEqDiff, Nat.reduceLT, Nat.reduceLeDiff, Nat.reduceAdd, Nat.reduceMul, Nat.reduceSub, not_true_eq_false, not_false_eq_true, and_true, true_and, and_false, false_and, or_true, true_or, or_false, false_or, Nat.lt_irrefl, Nat.le_refl, Nat.add_zero, Bool.false_eq_true, ↓pu_gI, nd_le, nd_leT, nd_lt, nd_ltT, nd_eq, nd_eqT, p1.c, kd]
      exact hs
    | true =>
      rw [e] at kd un
      rw [if_pos rfl] at un kd
      obtain ⟨a1, e1, u1⟩ := md_deeds p1 hA hml (show w < 3 by omega)
      have F2 : Fr [10, 11] a (nm_pI a1 90 k (nI (10 + 10 * w + m))) := (u1.2.mono rfl).pI _ rfl
      have m2 : MdR (nm_pI a1 90 k (nI (10 + 10 * w + m))) (sufT A m w) := u1.1.fr ((Fr.rf [10] a1).pI _ rfl) rfl
      have j2 : JB n (nm_pI a1 90 k (nI (10 + 10 * w + m))) (dwG A G w b m) := p2.cg (by rw [pI_ne _ _ (by omega)]; exact (u1.2 70 33 rfl).1) (by funext j; rw [pI_ne _ _ (by omega)]; exact (u1.2 91 j rfl).1)
      have g2 : 1 ≤ k → (nm_pI a1 90 k (nI (10 + 10 * w + m))).1 90 0 = nI f := fun h1 => by
        rw [pI_ne _ _ (by omega), (u1.2 90 0 rfl).1]
        exact p3 h1
      obtain ⟨a3, e3, m3, j3, g3, F3⟩ := hR (sufT A m w) _ _ (10 + 10 * w + m) (suf_I hA) (suf_6 _ _ _) m2 j2 g2 (pI_eq _ _ _ _)
      have u4 := ((MdU.rf m3).up (r := 6) (j := m) (A 6 m) (by omega) (by omega) (by omega)).up0 (j := 2) (A 0 8) (by omega)
      have m4 : MdR (nm_pI (nm_pI a3 77 m (nI (A 6 m))) 70 2 (nI (A 0 8))) A := by
        have := u4.1
        rw [show 6 + 2 = 8 from rfl, undo] at this
        exact this
      have j4 : JB n (nm_pI (nm_pI a3 77 m (nI (A 6 m))) 70 2 (nI (A 0 8))) (dwG A G w b (m + 1)) := by
        rw [un]
        exact j3.cg (by rw [pI_ne _ _ (by omega), pI_ne _ _ (by omega)]) (by funext j; rw [pI_ne _ _ (by omega), pI_ne _ _ (by omega)])
      have hs := ih (nm_pI (nm_pI a3 77 m (nI (A 6 m))) 70 2 (nI (A 0 8))) ⟨m4, j4, fun h1 => by rw [pI_ne _ _ (by omega), pI_ne _ _ (by omega)]; exact g3 h1, p4.tr (F2.tr (F3.tr (u4.2.mono rfl)))⟩
      simp (disch := omega) only [Md_counsels_l79, pl_0, pl_1, pl_2, pl_3, pl_4, pl_5, pl_6, pl_7, pl_8, pl_9, pl_10, pl_11, pl_12, pl_13, pl_14, pl_15, pl_16, pl_17, pl_18, pl_19, pl_20, pl_21, pl_30, pl_40, pl_50, pl_51, pl_60, pl_70, pl_71, pl_99, pl_100, pl_160, pl_240, pl_256, pl_300, pl_999, pl_1000, pl_1280, pl_9999, pl_10000, pu_neg, pu_nn, pu_le, pu_lt, pu_eq, pu_cl, pu_in, pu_g, ↓pu_let, ↓pu_bind, pu_m1, pu_add, pu_mul, Nat.not_lt_zero, if_false, if_true, Nat.zero_le, pu_d2, pu_d100, pu_em1, ↓reduceIte, Nat.reduceEqDiff, Nat.reduceLT, Nat.reduceLeDiff, Nat.reduceAdd, Nat.reduceMul, Nat.reduceSub, not_true_eq_false, not_false_eq_true, and_true, true_and, and_false, false_and, or_true, true_or, or_false, false_or, Nat.lt_irrefl, Nat.le_refl, Nat.add_zero, Bool.false_eq_true, ↓pu_gI, nd_le, nd_leT, nd_lt, nd_ltT, nd_eq, nd_eqT, p1.c, kd, p1.a6, p1.f, e1, e3]
      exact hs
  · intro q a hp
    obtain ⟨p1, p2, p3, p4⟩ := hp
    simp (disch := omega) only [Md_counsels_l79, pl_0, pl_1, pl_2, pl_3, pl_4, pl_5, pl_6, pl_7, pl_8, pl_9, pl_10, pl_11, pl_12, pl_13, pl_14, pl_15, pl_16, pl_17, pl_18, pl_19, pl_20, pl_21, pl_30, pl_40, pl_50, pl_51, pl_60, pl_70, pl_71, pl_99, pl_100, pl_160, pl_240, pl_256, pl_300, pl_999, pl_1000, pl_1280, pl_9999, pl_10000, pu_neg, pu_nn, pu_le, pu_lt, pu_eq, pu_cl, pu_in, pu_g, ↓pu_let, ↓pu_bind, pu_m1, pu_add, pu_mul, Nat.not_lt_zero, if_false, if_true, Nat.zero_le, pu_d2, pu_d100, pu_em1, ↓reduceIte, Nat.reduceEqDiff, Nat.reduceLT, Nat.reduceLeDiff, Nat.reduceAdd, Nat.reduceMul, Nat.reduceSub, not_true_eq_false, not_false_eq_true, and_true, true_and, and_false, false_and, or_true, true_or, or_false, false_or, Nat.lt_irrefl, Nat.le_refl, Nat.add_zero, Bool.false_eq_true, ↓pu_gI, nd_le, nd_leT, nd_lt, nd_ltT, nd_eq, nd_eqT, p1.c]
    exact hK a p1 p2 p3 p4
theorem cn_level (rec : Int32 → Int32 → nm_St → Option (Unit × nm_St)) {k n f : Nat} {G : is_T → Nat → Nat × Nat × Nat → Nat × Nat × Nat} {A : is_T} (hA : IslI A) (hR : MRec rec (A 0 6) k n f G) (hk : k < n) (hn : n ≤ 2) {b : Nat × Nat × Nat} (hm : MdR σ A) (hj : JB n σ b) (hf : 1 ≤ k → σ.1 90 0 = nI f) : ∃ a, Md_counselsB rec (nI k) (nI n) σ = some ((), a) ∧ MdR a A ∧ JB n a (fdM (fun v b => G (mvT A v) v b) (mvB A) b 30) ∧ (1 ≤ k → a.1 90 0 = nI f) ∧ Fr [10, 11] σ a := by
  have hc := hA.1
  rw [all_mv rfl hc]
  have F0 : Fr [10] σ (nm_pI σ 90 k (nI 0)) := (Fr.rf _ _).pI _ rfl
  obtain ⟨a1, e1, m1, j1, g1, F1⟩ := hR A (nm_pI σ 90 k (nI 0)) b 0 hA rfl (hm.fr F0 rfl) (hj.cg (by rw [pI_ne _ _ (by omega)]) (by funext j; rw [pI_ne _ _ (by omega)])) (fun h1 => by rw [pI_ne _ _ (by omega)]; exact hf h1) (pI_eq _ _ _ _)
  have F01 : Fr [10, 11] σ a1 := (F0.mono rfl).tr F1
  unfold Md_counselsB
  simp (disch := omega) only [pl_0, pl_1, pl_2, pl_3, pl_4, pl_5, pl_6, pl_7, pl_8, pl_9, pl_10, pl_11, pl_12, pl_13, pl_14, pl_15, pl_16, pl_17, pl_18, pl_19, pl_20, pl_21, pl_30, pl_40, pl_50, pl_51, pl_60, pl_70, pl_71, pl_99, pl_100, pl_160, pl_240, pl_256, pl_300, pl_999, pl_1000, pl_1280, pl_9999, pl_10000, pu_neg, pu_nn, pu_le, pu_lt, pu_eq, pu_cl, pu_in, pu_g, ↓pu_let, ↓pu_bind, pu_m1, pu_add, pu_mul, Nat.not_lt_zero, if_false, if_true, Nat.zero_le, pu_d2, pu_d100, pu_em1, ↓reduceIte, Nat.reduceEqDiff, Nat.reduceLT, Nat.reduceLeDiff, Nat.reduceAdd, Nat.reduceMul, Nat.reduceSub, not_true_eq_false, not_false_eq_true, and_true, true_and, and_false, false_and, or_true, true_or, or_false, false_or, Nat.lt_irrefl, Nat.le_refl, Nat.add_zero, Bool.false_eq_true, ↓pu_gI, nd_le, nd_leT, nd_lt, nd_ltT, nd_eq, nd_eqT, e1]
  -- w = 0
  rw [Md_counsels_l71]
  simp (disch := omega) only [pl_0, pl_1, pl_2, pl_3, pl_4, pl_5, pl_6, pl_7, pl_8, pl_9, pl_10, pl_11, pl_12, pl_13, pl_14, pl_15, pl_16, pl_17, pl_18, pl_19, pl_20, pl_21, pl_30, pl_40, pl_50, pl_51, pl_60, pl_70, pl_71, pl_99, pl_100, pl_160, pl_240, pl_256, pl_300, pl_999, pl_1000, pl_1280, pl_9999, pl_10000, pu_neg, pu_nn, pu_le, pu_lt, pu_eq, pu_cl, pu_in, pu_g, ↓pu_let, ↓pu_bind, pu_m1, pu_add, pu_mul, Nat.not_lt_zero, if_false, if_true, Nat.zero_le, pu_d2, pu_d100, pu_em1, ↓reduceIte, Nat.reduceEqDiff, Nat.reduceLT, Nat.reduceLeDiff, Nat.reduceAdd, Nat.reduceMul, Nat.reduceSub, not_true_eq_false, not_false_eq_true, and_true, true_and, and_false, false_and, or_true, true_or, or_false, false_or, Nat.lt_irrefl, Nat.le_refl, Nat.add_zero, Bool.false_eq_true, ↓pu_gI, nd_le, nd_leT, nd_lt, nd_ltT, nd_eq, nd_eqT]
  refine cn_mloop rec _ hA hR (by omega) (by omega) m1 j1 g1 (fun r => ∃ a, r = some ((), a) ∧ MdR a A ∧ JB n a (dwG A G 1 (dwG A G 0 (G A 0 b) (A 0 6)) (A 0 6)) ∧ (1 ≤ k → a.1 90 0 = nI f) ∧ Fr [10, 11] σ a) (fun a2 m2 j2 g2 F2 => ?_)
  rw [Md_counsels_l71]
  simp (disch := omega) only [pl_0, pl_1, pl_2, pl_3, pl_4, pl_5, pl_6, pl_7, pl_8, pl_9, pl_10, pl_11, pl_12, pl_13, pl_14, pl_15, pl_16, pl_17, pl_18, pl_19, pl_20, pl_21, pl_30, pl_40, pl_50, pl_51, pl_60, pl_70, pl_71, pl_99, pl_100, pl_160, pl_240, pl_256, pl_300, pl_999, pl_1000, pl_1280, pl_9999, pl_10000, pu_neg, pu_nn, pu_le, pu_lt, pu_eq, pu_cl, pu_in, pu_g, ↓pu_let, ↓pu_bind, pu_m1, pu_add, pu_mul, Nat.not_lt_zero, if_false, if_true, Nat.zero_le, pu_d2, pu_d100, pu_em1, ↓reduceIte, Nat.reduceEqDiff, Nat.reduceLT, Nat.reduceLeDiff, Nat.reduceAdd, Nat.reduceMul, Nat.reduceSub, not_true_eq_false, not_false_eq_true, and_true, true_and, and_false, false_and, or_true, true_or, or_false, false_or, Nat.lt_irrefl, Nat.le_refl, Nat.add_zero, Bool.false_eq_true, ↓pu_gI, nd_le, nd_leT, nd_lt, nd_ltT, nd_eq, nd_eqT]
  refine cn_mloop rec _ hA hR (by omega) (by omega) m2 j2 g2 (fun r => ∃ a, r = some ((), a) ∧ MdR a A ∧ JB n a (dwG A G 1 (dwG A G 0 (G A 0 b) (A 0 6)) (A 0 6)) ∧ (1 ≤ k → a.1 90 0 = nI f) ∧ Fr [10, 11] σ a) (fun a3 m3 j3 g3 F3 => ?_)
  rw [Md_counsels_l71]
  simp (disch := omega) only [pl_0, pl_1, pl_2, pl_3, pl_4, pl_5, pl_6, pl_7, pl_8, pl_9, pl_10, pl_11, pl_12, pl_13, pl_14, pl_15, pl_16, pl_17, pl_18, pl_19, pl_20, pl_21, pl_30, pl_40, pl_50, pl_51, pl_60, pl_70, pl_71, pl_99, pl_100, pl_160, pl_240, pl_256, pl_300, pl_999, pl_1000, pl_1280, pl_9999, pl_10000, pu_neg, pu_nn, pu_le, pu_lt, pu_eq, pu_cl, pu_in, pu_g, ↓pu_let, ↓pu_bind, pu_m1, pu_add, pu_mul, Nat.not_lt_zero, if_false, if_true, Nat.zero_le, pu_d2, pu_d100, pu_em1, ↓reduceIte, Nat.reduceEqDiff, Nat.reduceLT, Nat.reduceLeDiff, Nat.reduceAdd, Nat.reduceMul, Nat.reduceSub, not_true_eq_false, not_false_eq_true, and_true, true_and, and_false, false_and, or_true, true_or, or_false, false_or, Nat.lt_irrefl, Nat.le_refl, Nat.add_zero, Bool.false_eq_true, ↓pu_gI, nd_le, nd_leT, nd_lt, nd_ltT, nd_eq, nd_eqT]
  exact ⟨a3, rfl, m3, j3, g3, F01.tr (F2.tr F3)⟩
theorem cn_leaf (rec : Int32 → Int32 → nm_St → Option (Unit × nm_St)) {n f s : Nat} {A : is_T} (hA : IslI A) (hn : n ≤ 2) {b : Nat × Nat × Nat} (hm : MdR σ A) (hj : JB n σ b) (hf : 1 ≤ n → σ.1 90 0 = nI f) (hs : 2 ≤ n → σ.1 90 1 = nI s) : ∃ a, Md_counselsB rec (nI n) (nI n) σ = some ((), a) ∧ MdR a A ∧ JB n a (kpG (ctS A) f s b) ∧ (1 ≤ n → a.1 90 0 = nI f) ∧ Fr [10, 11] σ a := by
  have hct := ct_le hA
  have hb := hj.1.2
  have kc := md_costNow hm hA
  unfold Md_counselsB
  by_cases z : b.1 < ctS A + 1
  · simp (disch := omega) only [pl_0, pl_1, pl_2, pl_3, pl_4, pl_5, pl_6, pl_7, pl_8, pl_9, pl_10, pl_11, pl_12, pl_13, pl_14, pl_15, pl_16, pl_17, pl_18, pl_19, pl_20, pl_21, pl_30, pl_40, pl_50, pl_51, pl_60, pl_70, pl_71, pl_99, pl_100, pl_160, pl_240, pl_256, pl_300, pl_999, pl_1000, pl_1280, pl_9999, pl_10000, pu_neg, pu_nn, pu_le, pu_lt, pu_eq, pu_cl, pu_in, pu_g, ↓pu_let, ↓pu_bind, pu_m1, pu_add, pu_mul, Nat.not_lt_zero, if_false, if_true, Nat.zero_le, pu_d2, pu_d100, pu_em1, ↓reduceIte, Nat.reduceEqDiff, Nat.reduceLT, Nat.reduceLeDiff, Nat.reduceAdd, Nat.reduceMul, Nat.reduceSub, not_true_eq_false, not_false_eq_true, and_true, true_and, and_false, false_and, or_true, true_or, or_false, false_or, Nat.lt_irrefl, Nat.le_refl, Nat.add_zero, Bool.false_eq_true, ↓pu_gI, nd_le, nd_leT, nd_lt, nd_ltT, nd_eq, nd_eqT, kc, hj.1.1, sub_lt2]
    have F1 : Fr [10] σ (nm_pI σ 70 33 (nI (ctS A))) := (Fr.rf _ _).pI _ rfl
    have e33 : ∀ x : Int32, nI (ctS A) = nI (ctS A + 1) - nI 1 := fun _ => (pu_pred _).symm
    rw [kpG_t z]
    have hn3 : n = 0 ∨ n = 1 ∨ n = 2 := by omega
    rcases hn3 with rfl | rfl | rfl
    · rw [Md_counsels_l27]
      simp (disch := omega) only [pl_0, pl_1, pl_2, pl_3, pl_4, pl_5, pl_6, pl_7, pl_8, pl_9, pl_10, pl_11, pl_12, pl_13, pl_14, pl_15, pl_16, pl_17, pl_18, pl_19, pl_20, pl_21, pl_30, pl_40, pl_50, pl_51, pl_60, pl_70, pl_71, pl_99, pl_100, pl_160, pl_240, pl_256, pl_300, pl_999, pl_1000, pl_1280, pl_9999, pl_10000, pu_neg, pu_nn, pu_le, pu_lt, pu_eq, pu_cl, pu_in, pu_g, ↓pu_let, ↓pu_bind, pu_m1, pu_add, pu_mul, Nat.not_lt_zero, if_false, if_true, Nat.zero_le, pu_d2, pu_d100, pu_em1, ↓reduceIte, Nat.reduceEqDiff, Nat.reduceLT, Nat.reduceLeDiff, Nat.reduceAdd, Nat.reduceMul, Nat.reduceSub, not_true_eq_false, not_false_eq_true, and_true, true_and, and_false, false_and, or_true, true_or, or_false, false_or, Nat.lt_irrefl, Nat.le_refl, Nat.add_zero, Bool.false_eq_true, ↓pu_gI, nd_le, nd_leT, nd_lt, nd_ltT, nd_eq, nd_eqT]
      refine ⟨_, rfl, hm.fr F1 rfl, ⟨⟨by rw [pI_eq, pu_pred], by show ctS A + 1 ≤ _; omega⟩, fun _ => ⟨fun q => absurd q (by decide), fun q => absurd q (by decide)⟩⟩, fun q => absurd q (by decide), F1.mono rfl⟩
    · rw [Md_counsels_l27]
      simp (disch := omega) only [pl_0, pl_1, pl_2, pl_3, pl_4, pl_5, pl_6, pl_7, pl_8, pl_9, pl_10, pl_11, pl_12, pl_13, pl_14, pl_15, pl_16, pl_17, pl_18, pl_19, pl_20, pl_21, pl_30, pl_40, pl_50, pl_51, pl_60, pl_70, pl_71, pl_99, pl_100, pl_160, pl_240, pl_256, pl_300, pl_999, pl_1000, pl_1280, pl_9999, pl_10000, pu_neg, pu_nn, pu_le, pu_lt, pu_eq, pu_cl, pu_in, pu_g, ↓pu_let, ↓pu_bind, pu_m1, pu_add, pu_mul, Nat.not_lt_zero, if_false, if_true, Nat.zero_le, pu_d2, pu_d100, pu_em1, ↓reduceIte, Nat.reduceEqDiff, Nat.reduceLT, Nat.reduceLeDiff, Nat.reduceAdd, Nat.reduceMul, Nat.reduceSub, not_true_eq_false, not_false_eq_true, and_true, true_and, and_false, false_and, or_true, true_or, or_false, false_or, Nat.lt_irrefl, Nat.le_refl, Nat.add_zero, Bool.false_eq_true, ↓pu_gI, nd_le, nd_leT, nd_lt, nd_ltT, nd_eq, nd_eqT]
      rw [Md_counsels_l27]
      simp (disch := omega) only [pl_0, pl_1, pl_2, pl_3, pl_4, pl_5, pl_6, pl_7, pl_8, pl_9, pl_10, pl_11, pl_12, pl_13, pl_14, pl_15, pl_16, pl_17, pl_18, pl_19, pl_20, pl_21, pl_30, pl_40, pl_50, pl_51, pl_60, pl_70, pl_71, pl_99, pl_100, pl_160, pl_240, pl_256, pl_300, pl_999, pl_1000, pl_1280, pl_9999, pl_10000, pu_neg, pu_nn, pu_le, pu_lt, pu_eq, pu_cl, pu_in, pu_g, ↓pu_let, ↓pu_bind, pu_m1, pu_add, pu_mul, Nat.not_lt_zero, if_false, if_true, Nat.zero_le, pu_d2, pu_d100, pu_em1, ↓reduceIte, Nat.reduceEqDiff, Nat.reduceLT, Nat.reduceLeDiff, Nat.reduceAdd, Nat.reduceMul, Nat.reduceSub, not_true_eq_false, not_false_eq_true, and_true, true_and, and_false, false_and, or_true, true_or, or_false, false_or, Nat.lt_irrefl, Nat.le_refl, Nat.add_zero, Bool.false_eq_true, ↓pu_gI, nd_le, nd_leT, nd_lt, nd_ltT, nd_eq, nd_eqT]
      have F2 : Fr [10] σ (nm_pI (nm_pI σ 70 33 (nI (ctS A))) 91 0 ((nm_pI σ 70 33 (nI (ctS A))).1 90 0)) := F1.pI _ rfl
      refine ⟨_, rfl, hm.fr F2 rfl, ⟨⟨by rw [pI_ne _ _ (by omega), pI_eq, pu_pred], by show ctS A + 1 ≤ _; omega⟩, fun _ => ⟨fun q => ?_, fun q => absurd q (by decide)⟩⟩, fun q => ?_, F2.mono rfl⟩
      · rw [pI_eq, pI_ne _ _ (by omega)]
        exact hf (by omega)
      · rw [pI_ne _ _ (by omega), pI_ne _ _ (by omega)]
        exact hf (by omega)
    · rw [Md_counsels_l27]
      simp (disch := omega) only [pl_0, pl_1, pl_2, pl_3, pl_4, pl_5, pl_6, pl_7, pl_8, pl_9, pl_10, pl_11, pl_12, pl_13, pl_14, pl_15, pl_16, pl_17, pl_18, pl_19, pl_20, pl_21, pl_30, pl_40, pl_50, pl_51, pl_60, pl_70, pl_71, pl_99, pl_100, pl_160, pl_240, pl_256, pl_300, pl_999, pl_1000, pl_1280, pl_9999, pl_10000, pu_neg, pu_nn, pu_le, pu_lt, pu_eq, pu_cl, pu_in, pu_g, ↓pu_let, ↓pu_bind, pu_m1, pu_add, pu_mul, Nat.not_lt_zero, if_false, if_true, Nat.zero_le, pu_d2, pu_d100, pu_em1, ↓reduceIte, Nat.reduceEqDiff, Nat.reduceLT, Nat.reduceLeDiff, Nat.reduceAdd, Nat.reduceMul, Nat.reduceSub, not_true_eq_false, not_false_eq_true, and_true, true_and, and_false, false_and, or_true, true_or, or_false, false_or, Nat.lt_irrefl, Nat.le_refl, Nat.add_zero, Bool.false_eq_true, ↓pu_gI, nd_le, nd_leT, nd_lt, nd_ltT, nd_eq, nd_eqT]
      rw [Md_counsels_l27]
      simp (disch := omega) only [pl_0, pl_1, pl_2, pl_3, pl_4, pl_5, pl_6, pl_7, pl_8, pl_9, pl_10, pl_11, pl_12, pl_13, pl_14, pl_15, pl_16, pl_17, pl_18, pl_19, pl_20, pl_21, pl_30, pl_40, pl_50, pl_51, pl_60, pl_70, pl_71, pl_99, pl_100, pl_160, pl_240, pl_256, pl_300, pl_999, pl_1000, pl_1280, pl_9999, pl_10000, pu_neg, pu_nn, pu_le, pu_lt, pu_eq, pu_cl, pu_in, pu_g, ↓pu_let, ↓pu_bind, pu_m1, pu_add, pu_mul, Nat.not_lt_zero, if_false, if_true, Nat.zero_le, pu_d2, pu_d100, pu_em1, ↓reduceIte, Nat.reduceEqDiff, Nat.reduceLT, Nat.reduceLeDiff, Nat.reduceAdd, Nat.reduceMul, Nat.reduceSub, not_true_eq_false, not_false_eq_true, and_true, true_and, and_false, false_and, or_true, true_or, or_false, false_or, Nat.lt_irrefl, Nat.le_refl, Nat.add_zero, Bool.false_eq_true, ↓pu_gI, nd_le, nd_leT, nd_lt, nd_ltT, nd_eq, nd_eqT]
      rw [Md_counsels_l27]
      simp (disch := omega) only [pl_0, pl_1, pl_2, pl_3, pl_4, pl_5, pl_6, pl_7, pl_8, pl_9, pl_10, pl_11, pl_12, pl_13, pl_14, pl_15, pl_16, pl_17, pl_18, pl_19, pl_20, pl_21, pl_30, pl_40, pl_50, pl_51, pl_60, pl_70, pl_71, pl_99, pl_100, pl_160, pl_240, pl_256, pl_300, pl_999, pl_1000, pl_1280, pl_9999, pl_10000, pu_neg, pu_nn, pu_le, pu_lt, pu_eq, pu_cl, pu_in, pu_g, ↓pu_let, ↓pu_bind, pu_m1, pu_add, pu_mul, Nat.not_lt_zero, if_false, if_true, Nat.zero_le, pu_d2, pu_d100, pu_em1, ↓reduceIte, Nat.reduceEqDiff, Nat.reduceLT, Nat.reduceLeDiff, Nat.reduceAdd, Nat.reduceMul, Nat.reduceSub, not_true_eq_false, not_false_eq_true, and_true, true_and, and_false, false_and, or_true, true_or, or_false, false_or, Nat.lt_irrefl, Nat.le_refl, Nat.add_zero, Bool.false_eq_true, ↓pu_gI, nd_le, nd_leT, nd_lt, nd_ltT, nd_eq, nd_eqT]
      have F3 : ∀ x y, Fr [10] σ (nm_pI (nm_pI (nm_pI σ 70 33 (nI (ctS A))) 91 0 x) 91 1 y) := fun x y => (F1.pI _ rfl).pI _ rfl
      refine ⟨_, rfl, hm.fr (F3 _ _) rfl, ⟨⟨by rw [pI_ne _ _ (by omega), pI_ne _ _ (by omega), pI_eq, pu_pred], by show ctS A + 1 ≤ _; omega⟩, fun _ => ⟨fun q => ?_, fun q => ?_⟩⟩, fun q => ?_, (F3 _ _).mono rfl⟩
      · rw [pI_ne _ _ (by omega), pI_eq, pI_ne _ _ (by omega)]
        exact hf (by omega)
      · rw [pI_eq, pI_ne _ _ (by omega), pI_ne _ _ (by omega)]
        exact hs (by omega)
      · rw [pI_ne _ _ (by omega), pI_ne _ _ (by omega), pI_ne _ _ (by omega)]
        exact hf (by omega)
  · simp (disch := omega) only [pl_0, pl_1, pl_2, pl_3, pl_4, pl_5, pl_6, pl_7, pl_8, pl_9, pl_10, pl_11, pl_12, pl_13, pl_14, pl_15, pl_16, pl_17, pl_18, pl_19, pl_20, pl_21, pl_30, pl_40, pl_50, pl_51, pl_60, pl_70, pl_71, pl_99, pl_100, pl_160, pl_240, pl_256, pl_300, pl_999, pl_1000, pl_1280, pl_9999, pl_10000, pu_neg, pu_nn, pu_le, pu_lt, pu_eq, pu_cl, pu_in, pu_g, ↓pu_let, ↓pu_bind, pu_m1, pu_add, pu_mul, Nat.not_lt_zero, if_false, if_true, Nat.zero_le, pu_d2, pu_d100, pu_em1, ↓reduceIte, Nat.reduceEqDiff, Nat.reduceLT, Nat.reduceLeDiff, Nat.reduceAdd, Nat.reduceMul, Nat.reduceSub, not_true_eq_false, not_false_eq_true, and_true, true_and, and_false, false_and, or_true, true_or, or_false, false_or, Nat.lt_irrefl, Nat.le_refl, Nat.add_zero, Bool.false_eq_true, ↓pu_gI, nd_le, nd_leT, nd_lt, nd_ltT, nd_eq, nd_eqT, kc, hj.1.1, sub_lt2]
    rw [kpG_f z]
    exact ⟨σ, rfl, hm, hj, hf, Fr.rf _ _⟩
theorem kp_nz (p f s : Nat) (b : Nat × Nat × Nat) : (kpG p f s b).1 ≠ 0 := by
  by_cases z : b.1 < p + 1
  · rw [kpG_t z]; exact Nat.succ_ne_zero _
  · rw [kpG_f z]; omega
theorem fdM_nz {g : Nat → Nat × Nat × Nat → Nat × Nat × Nat} {p : Nat → Bool} {b : Nat × Nat × Nat} (h0 : p 0 = true) (hg : ∀ v b, (g v b).1 ≠ 0) : ∀ n, 0 < n → (fdM g p b n).1 ≠ 0 := by
  intro n
  induction n with
  | zero => intro h; omega
  | succ n ih =>
    intro _
    cases e : p n with
    | true => rw [fdM_t e]; exact hg _ _
    | false =>
      rw [fdM_f e]
      by_cases z : n = 0
      · subst z; rw [h0] at e; cases e
      · exact ih (by omega)
theorem cn_nz (T : is_T) (n : Nat) : (cnS T n).1 ≠ 0 := by
  have h0 : ∀ A, mvB A 0 = true := fun _ => rfl
  unfold cnS
  refine fdM_nz (h0 T) (fun v b => ?_) _ (by split <;> omega)
  unfold ouG
  exact fdM_nz (h0 _) (fun v b => kp_nz _ _ _ _) _ (by split <;> omega)
theorem md_counsels (h : MdR σ T) (hI : IslI T) {n : Nat} (hn : n ≤ 2) : ∃ a, Md_counsels 4 (nI 0) (nI n) (nm_pI σ 70 33 (-nI 1)) = some ((), a) ∧ MdR a T ∧ JB n a (cnS T n) ∧ Fr [10, 11] σ a := by
  have F0 : Fr [10] σ (nm_pI σ 70 33 (-nI 1)) := (Fr.rf _ _).pI _ rfl
  have m0 := h.fr F0 rfl
  have j0 : JB n (nm_pI σ 70 33 (-nI 1)) (0, 0, 0) := ⟨⟨by rw [pI_eq]; exact pu_01.symm, Nat.zero_le _⟩, fun q => absurd rfl q⟩
  have t0 : mvT T 0 = T := if_pos (by omega)
  have b0 : ∀ A, mvB A 0 = true := fun _ => rfl
  have one : ∀ (g : Nat → Nat × Nat × Nat → Nat × Nat × Nat) (A : is_T) (b : Nat × Nat × Nat), fdM g (mvB A) b 1 = g 0 b := fun g A b => fdM_t (b0 A)
  have i0 : ∀ A : is_T, mvT A 0 = A := fun A => if_pos (by omega)
  have hn3 : n = 0 ∨ n = 1 ∨ n = 2 := by omega
  rcases hn3 with rfl | rfl | rfl
  · obtain ⟨a, e, m, j, -, F⟩ := cn_leaf (Md_counsels 3) (f := 0) (s := 0) hI (by omega) m0 j0 (fun q => absurd q (by decide)) (fun q => absurd q (by decide))
    refine ⟨a, e, m, ?_, (F0.mono rfl).tr F⟩
    have ec : cnS T 0 = kpG (ctS T) 0 0 (0, 0, 0) := by
      unfold cnS
      rw [if_neg (by omega), if_neg (by omega), one]
      unfold ouG
      rw [one]
      unfold inG
      rw [i0, i0]
    rw [ec]; exact j
  · have rec1 : MRec (Md_counsels 3) (T 0 6) 0 1 0 (fun A v b => kpG (ctS A) v 0 b) := fun A a b v hA hc hm hj _ hv => by
      obtain ⟨a', e, m, j, g, F⟩ := cn_leaf (Md_counsels 2) (f := v) (s := 0) hA (by omega) hm hj (fun _ => hv) (fun q => absurd q (by decide))
      exact ⟨a', e, m, j, fun q => absurd q (by decide), F⟩
    obtain ⟨a, e, m, j, -, F⟩ := cn_level (Md_counsels 3) hI rec1 (by omega) (by omega) m0 j0 (fun q => absurd q (by decide))
    refine ⟨a, e, m, ?_, (F0.mono rfl).tr F⟩
    have ec : cnS T 1 = fdM (fun v b => kpG (ctS (mvT T v)) v 0 b) (mvB T) (0, 0, 0) 30 := by
      unfold cnS
      rw [if_neg (by omega), if_pos (by omega)]
      congr 1
    rw [ec]; exact j
  · have rec2 : ∀ f, MRec (Md_counsels 2) (T 0 6) 1 2 f (fun A v b => kpG (ctS A) f v b) := fun f A a b v hA hc hm hj h1 hv => by
      obtain ⟨a', e, m, j, g, F⟩ := cn_leaf (Md_counsels 1) (f := f) (s := v) hA (by omega) hm hj (fun _ => h1 (by omega)) (fun _ => hv)
      exact ⟨a', e, m, j, fun _ => g (by omega), F⟩
    have rec1 : MRec (Md_counsels 3) (T 0 6) 0 2 0 (fun A f b => fdM (fun v b => kpG (ctS (mvT A v)) f v b) (mvB A) b 30) := fun A a b v hA hc hm hj _ hv => by
      have r2 := rec2 v
      rw [← hc] at r2
      obtain ⟨a', e, m, j, g, F⟩ := cn_level (Md_counsels 2) hA r2 (by omega) (by omega) hm hj (fun _ => hv)
      exact ⟨a', e, m, j, fun q => absurd q (by decide), F⟩
    obtain ⟨a, e, m, j, -, F⟩ := cn_level (Md_counsels 3) hI rec1 (by omega) (by omega) m0 j0 (fun q => absurd q (by decide))
    refine ⟨a, e, m, ?_, (F0.mono rfl).tr F⟩
    have ec : cnS T 2 = fdM (fun f b => fdM (fun v b => kpG (ctS (mvT (mvT T f) v)) f v b) (mvB (mvT T f)) b 30) (mvB T) (0, 0, 0) 30 := by
      unfold cnS
      rw [if_pos (by omega), if_pos (by omega)]
      rfl
    rw [ec]; exact j
theorem op_council {U : is_T} {E : Nat → Nat → Int64} (hP : PF T U) (p1 p2 : Int32) : OkH T U E (Nm_council p1 p2) (Md_council p1 p2) := by
  have hI := hP.1
  have six : (p1 < 0 ∨ nI 3 ≤ p1) → OkH T U E (Nm_council p1 p2) (Md_council p1 p2) := fun hb => by
    refine h_no hI (b := -nI 6) 6 (by omega) (by omega) (fun σ h => ?_) (fun σ h => ?_)
    · have kw : Nm_isWithin p1 (nI 0) (nI 2) σ = some (nI 0, σ) := by
        rcases hb with k | k
        · simp (disch := omega) only [Nm_isWithin, pl_0, pl_1, pl_2, pl_3, pl_4, pl_5, pl_6, pl_7, pl_8, pl_9, pl_10, pl_11, pl_12, pl_13, pl_14, pl_15, pl_16, pl_17, pl_18, pl_19, pl_20, pl_21, pl_30, pl_40, pl_50, pl_51, pl_60, pl_70, pl_71, pl_99, pl_100, pl_160, pl_240, pl_256, pl_300, pl_999, pl_1000, pl_1280, pl_9999, pl_10000, pu_neg, pu_nn, pu_le, pu_lt, pu_eq, pu_cl, pu_in, pu_g, ↓pu_let, ↓pu_bind, pu_m1, pu_add, pu_mul, Nat.not_lt_zero, if_false, if_true, Nat.zero_le, pu_d2, pu_d100, pu_em1, ↓reduceIte, Nat.reduceEqDiff, Nat.reduceLT, Nat.reduceLeDiff, Nat.reduceAdd, Nat.reduceMul, Nat.reduceSub, not_true_eq_false, not_false_eq_true, and_true, true_and, and_false, false_and, or_true, true_or, or_false, false_or, Nat.lt_irrefl, Nat.le_refl, Nat.add_zero, Bool.false_eq_true, ↓pu_gI, nd_le, nd_leT, nd_lt, nd_ltT, nd_eq, nd_eqT, ngl k, nge k, ngle k, nggt k, ngne k]
        · simp (disch := omega) only [Nm_isWithin, pl_0, pl_1, pl_2, pl_3, pl_4, pl_5, pl_6, pl_7, pl_8, pl_9, pl_10, pl_11, pl_12, pl_13, pl_14, pl_15, pl_16, pl_17, pl_18, pl_19, pl_20, pl_21, pl_30, pl_40, pl_50, pl_51, pl_60, pl_70, pl_71, pl_99, pl_100, pl_160, pl_240, pl_256, pl_300, pl_999, pl_1000, pl_1280, pl_9999, pl_10000, pu_neg, pu_nn, pu_le, pu_lt, pu_eq, pu_cl, pu_in, pu_g, ↓pu_let, ↓pu_bind, pu_m1, pu_add, pu_mul, Nat.not_lt_zero, if_false, if_true, Nat.zero_le, pu_d2, pu_d100, pu_em1, ↓reduceIte, Nat.reduceEqDiff, Nat.reduceLT, Nat.reduceLeDiff, Nat.reduceAdd, Nat.reduceMul, Nat.reduceSub, not_true_eq_false, not_false_eq_true, and_true, true_and, and_false, false_and, or_true, true_or, or_false, false_or, Nat.lt_irrefl, Nat.le_refl, Nat.add_zero, Bool.false_eq_true, ↓pu_gI, nd_le, nd_leT, nd_lt, nd_ltT, nd_eq, nd_eqT, bgl k, bge k, bgle k, bggt k, bgne k, bgm1 k]
      unfold Nm_council
      refine (bn0 kw).trans ?_
      exact bind_of (nm_ref (n := 6) (by omega) (by omega) σ) rfl
    · rcases hb with k | k
      · simp (disch := omega) only [Md_council, pl_0, pl_1, pl_2, pl_3, pl_4, pl_5, pl_6, pl_7, pl_8, pl_9, pl_10, pl_11, pl_12, pl_13, pl_14, pl_15, pl_16, pl_17, pl_18, pl_19, pl_20, pl_21, pl_30, pl_40, pl_50, pl_51, pl_60, pl_70, pl_71, pl_99, pl_100, pl_160, pl_240, pl_256, pl_300, pl_999, pl_1000, pl_1280, pl_9999, pl_10000, pu_neg, pu_nn, pu_le, pu_lt, pu_eq, pu_cl, pu_in, pu_g, ↓pu_let, ↓pu_bind, pu_m1, pu_add, pu_mul, Nat.not_lt_zero, if_false, if_true, Nat.zero_le, pu_d2, pu_d100, pu_em1, ↓reduceIte, Nat.reduceEqDiff, Nat.reduceLT, Nat.reduceLeDiff, Nat.reduceAdd, Nat.reduceMul, Nat.reduceSub, not_true_eq_false, not_false_eq_true, and_true, true_and, and_false, false_and, or_true, true_or, or_false, false_or, Nat.lt_irrefl, Nat.le_refl, Nat.add_zero, Bool.false_eq_true, ↓pu_gI, nd_le, nd_leT, nd_lt, nd_ltT, nd_eq, nd_eqT, ngl k, nge k, ngle k, nggt k, ngne k, md_no]
      · simp (disch := omega) only [Md_council, pl_0, pl_1, pl_2, pl_3, pl_4, pl_5, pl_6, pl_7, pl_8, pl_9, pl_10, pl_11, pl_12, pl_13, pl_14, pl_15, pl_16, pl_17, pl_18, pl_19, pl_20, pl_21, pl_30, pl_40, pl_50, pl_51, pl_60, pl_70, pl_71, pl_99, pl_100, pl_160, pl_240, pl_256, pl_300, pl_999, pl_1000, pl_1280, pl_9999, pl_10000, pu_neg, pu_nn, pu_le, pu_lt, pu_eq, pu_cl, pu_in, pu_g, ↓pu_let, ↓pu_bind, pu_m1, pu_add, pu_mul, Nat.not_lt_zero, if_false, if_true, Nat.zero_le, pu_d2, pu_d100, pu_em1, ↓reduceIte, Nat.reduceEqDiff, Nat.reduceLT, Nat.reduceLeDiff, Nat.reduceAdd, Nat.reduceMul, Nat.reduceSub, not_true_eq_false, not_false_eq_true, and_true, true_and, and_false, false_and, or_true, true_or, or_false, false_or, Nat.lt_irrefl, Nat.le_refl, Nat.add_zero, Bool.false_eq_true, ↓pu_gI, nd_le, nd_leT, nd_lt, nd_ltT, nd_eq, nd_eqT, bgl k, bge k, bgle k, bggt k, bgne k, bgm1 k, md_no]
  rcases pu_ix p1 3 (by omega) with h1 | h1 | ⟨n, hn, rfl⟩
  · exact six (Or.inl h1)
  · exact six (Or.inr h1)
  have kn : ∀ σ : nm_St, Nm_isWithin (nI n) (nI 0) (nI 2) σ = some (nI 1, σ) := fun σ => by
    simp (disch := omega) only [Nm_isWithin, pl_0, pl_1, pl_2, pl_3, pl_4, pl_5, pl_6, pl_7, pl_8, pl_9, pl_10, pl_11, pl_12, pl_13, pl_14, pl_15, pl_16, pl_17, pl_18, pl_19, pl_20, pl_21, pl_30, pl_40, pl_50, pl_51, pl_60, pl_70, pl_71, pl_99, pl_100, pl_160, pl_240, pl_256, pl_300, pl_999, pl_1000, pl_1280, pl_9999, pl_10000, pu_neg, pu_nn, pu_le, pu_lt, pu_eq, pu_cl, pu_in, pu_g, ↓pu_let, ↓pu_bind, pu_m1, pu_add, pu_mul, Nat.not_lt_zero, if_false, if_true, Nat.zero_le, pu_d2, pu_d100, pu_em1, ↓reduceIte, Nat.reduceEqDiff, Nat.reduceLT, Nat.reduceLeDiff, Nat.reduceAdd, Nat.reduceMul, Nat.reduceSub, not_true_eq_false, not_false_eq_true, and_true, true_and, and_false, false_and, or_true, true_or, or_false, false_or, Nat.lt_irrefl, Nat.le_refl, Nat.add_zero, Bool.false_eq_true, ↓pu_gI, nd_le, nd_leT, nd_lt, nd_ltT, nd_eq, nd_eqT]
  have m1x : ∀ x : Int32, x < 0 → x ≠ -nI 1 → x < -nI 1 := fun x hx hne => by
    have h1 := Int32.lt_iff_toInt_lt.mp hx
    refine Int32.lt_iff_toInt_lt.mpr ?_
    have h0 : (0 : Int32).toInt = 0 := by decide
    have hm : (-nI 1 : Int32).toInt = -1 := by decide +kernel
    have hd : x.toInt ≠ -1 := fun q => hne (Int32.toInt_inj.mp (q.trans hm.symm))
    omega
  have five : ((p2 < 0 ∧ p2 ≠ -nI 1) ∨ nI n ≤ p2) → OkH T U E (Nm_council (nI n) p2) (Md_council (nI n) p2) := fun hb => by
    refine h_no hI (b := -nI 5) 5 (by omega) (by omega) (fun σ h => ?_) (fun σ h => ?_)
    · have hne : ¬ p2 = -nI 1 := by
        rcases hb with k | k
        · exact k.2
        · intro q
          have := bgm1 k (by omega)
          rw [this] at q
          exact q
      have kw : Nm_isWithin p2 (nI 0) (nI n - nI 1) σ = some (nI 0, σ) := by
        unfold Nm_isWithin
        rcases hb with k | k
        · rw [if_pos (show p2 < nI 0 from k.1)]; rfl
        · by_cases z : p2 < nI 0
          · rw [if_pos z]; rfl
          · have g : nI n - nI 1 < p2 := by
              obtain ⟨j, hj, rfl⟩ := nI_of (x := p2) z
              have hnj : n ≤ j := by
                apply Nat.le_of_not_lt
                intro q
                exact nI_ge q (by omega) k
              have h1 := Int32.le_iff_toInt_le.mp k
              refine Int32.lt_iff_toInt_lt.mpr ?_
              by_cases z0 : n = 0
              · subst z0
                rw [pu_01, nI_toInt (by omega), show (-nI 1 : Int32).toInt = -1 by decide +kernel]
                omega
              · rw [pk_sub (by omega), nI_toInt (by omega), nI_toInt (by omega)]
                omega
            rw [if_neg z, if_pos g]; rfl
      unfold Nm_council
      refine (bn1 (kn σ)).trans ?_
      rw [show (-1 : Int32) = -nI 1 from rfl, if_neg hne]
      refine (bn0 kw).trans ?_
      exact bind_of (nm_ref (n := 5) (by omega) (by omega) σ) rfl
    · rcases hb with k | k
      · have g := m1x p2 k.1 k.2
        simp (disch := omega) only [Md_council, pl_0, pl_1, pl_2, pl_3, pl_4, pl_5, pl_6, pl_7, pl_8, pl_9, pl_10, pl_11, pl_12, pl_13, pl_14, pl_15, pl_16, pl_17, pl_18, pl_19, pl_20, pl_21, pl_30, pl_40, pl_50, pl_51, pl_60, pl_70, pl_71, pl_99, pl_100, pl_160, pl_240, pl_256, pl_300, pl_999, pl_1000, pl_1280, pl_9999, pl_10000, pu_neg, pu_nn, pu_le, pu_lt, pu_eq, pu_cl, pu_in, pu_g, ↓pu_let, ↓pu_bind, pu_m1, pu_add, pu_mul, Nat.not_lt_zero, if_false, if_true, Nat.zero_le, pu_d2, pu_d100, pu_em1, ↓reduceIte, Nat.reduceEqDiff, Nat.reduceLT, Nat.reduceLeDiff, Nat.reduceAdd, Nat.reduceMul, Nat.reduceSub, not_true_eq_false, not_false_eq_true, and_true, true_and, and_false, false_and, or_true, true_or, or_false, false_or, Nat.lt_irrefl, Nat.le_refl, Nat.add_zero, Bool.false_eq_true, ↓pu_gI, nd_le, nd_leT, nd_lt, nd_ltT, nd_eq, nd_eqT, g, md_no]
      · have g : ¬ p2 < -nI 1 := fun q => by
          have h1 := Int32.lt_iff_toInt_lt.mp q
          have h2 := Int32.le_iff_toInt_le.mp k
          rw [nI_toInt (by omega)] at h2
          rw [show (-nI 1 : Int32).toInt = -1 by decide +kernel] at h1
          omega
        simp (disch := omega) only [Md_council, pl_0, pl_1, pl_2, pl_3, pl_4, pl_5, pl_6, pl_7, pl_8, pl_9, pl_10, pl_11, pl_12, pl_13, pl_14, pl_15, pl_16, pl_17, pl_18, pl_19, pl_20, pl_21, pl_30, pl_40, pl_50, pl_51, pl_60, pl_70, pl_71, pl_99, pl_100, pl_160, pl_240, pl_256, pl_300, pl_999, pl_1000, pl_1280, pl_9999, pl_10000, pu_neg, pu_nn, pu_le, pu_lt, pu_eq, pu_cl, pu_in, pu_g, ↓pu_let, ↓pu_bind, pu_m1, pu_add, pu_mul, Nat.not_lt_zero, if_false, if_true, Nat.zero_le, pu_d2, pu_d100, pu_em1, ↓reduceIte, Nat.reduceEqDiff, Nat.reduceLT, Nat.reduceLeDiff, Nat.reduceAdd, Nat.reduceMul, Nat.reduceSub, not_true_eq_false, not_false_eq_true, and_true, true_and, and_false, false_and, or_true, true_or, or_false, false_or, Nat.lt_irrefl, Nat.le_refl, Nat.add_zero, Bool.false_eq_true, ↓pu_gI, nd_le, nd_leT, nd_lt, nd_ltT, nd_eq, nd_eqT, g, bgl k, bge k, bgle k, bggt k, bgne k, bgm1 k, md_no]
  have good : (p2 = -nI 1 ∨ ∃ i, i < n ∧ p2 = nI i) → OkH T U E (Nm_council (nI n) p2) (Md_council (nI n) p2) := fun hb => by
    have nz := cn_nz T n
    refine ⟨0, if p2 = -nI 1 then nI (cnS T n).1 - nI 1 else if p2 = nI 0 then nI (cnS T n).2.1 else nI (cnS T n).2.2, T, by omega, hI, Nat.le_refl _, fun σ h hz => ?_, fun σ h => ?_⟩
    · obtain ⟨τ, e, cb, F⟩ := co_weigh h.1 hI hz (show n ≤ 2 by omega)
      obtain ⟨c1, c2⟩ := cb
      obtain ⟨c3, c4⟩ := c2 nz
      refine ⟨τ, ?_, h.1.fr2 F rfl, F.mono rfl⟩
      rw [if_pos rfl]
      have j39 : Nm_council_j39 (nI n) p2 σ = some (if p2 = -nI 1 then nI (cnS T n).1 - nI 1 else if p2 = nI 0 then nI (cnS T n).2.1 else nI (cnS T n).2.2, τ) := by
        unfold Nm_council_j39
        simp only [pl_0, pl_1, pl_2, pl_3, pl_4, pl_5, pl_6, pl_7, pl_8, pl_9, pl_10, pl_11, pl_12, pl_13, pl_14, pl_15, pl_16, pl_17, pl_18, pl_19, pl_20, pl_21, pl_30, pl_40, pl_50, pl_51, pl_60, pl_70, pl_71, pl_99, pl_100, pl_160, pl_240, pl_256, pl_300, pl_999, pl_1000, pl_1280, pl_9999, pl_10000, e, pu_bind, c1.1, c3, c4]
        by_cases z : p2 = -nI 1
        · rw [if_pos z, if_pos z]
        · rw [if_neg z, if_neg z]
          by_cases z0 : p2 = nI 0
          · rw [if_pos z0, if_pos z0]
          · rw [if_neg z0, if_neg z0]
      unfold Nm_council
      refine (bn1 (kn σ)).trans ?_
      rcases hb with rfl | ⟨i, hi, rfl⟩
      · exact (if_pos rfl).trans j39
      · have kw : Nm_isWithin (nI i) (nI 0) (nI n - nI 1) σ = some (nI 1, σ) := by
          rw [pk_sub (by omega)]
          simp (disch := omega) only [Nm_isWithin, pl_0, pl_1, pl_2, pl_3, pl_4, pl_5, pl_6, pl_7, pl_8, pl_9, pl_10, pl_11, pl_12, pl_13, pl_14, pl_15, pl_16, pl_17, pl_18, pl_19, pl_20, pl_21, pl_30, pl_40, pl_50, pl_51, pl_60, pl_70, pl_71, pl_99, pl_100, pl_160, pl_240, pl_256, pl_300, pl_999, pl_1000, pl_1280, pl_9999, pl_10000, pu_neg, pu_nn, pu_le, pu_lt, pu_eq, pu_cl, pu_in, pu_g, ↓pu_let, ↓pu_bind, pu_m1, pu_add, pu_mul, Nat.not_lt_zero, if_false, if_true, Nat.zero_le, pu_d2, pu_d100, pu_em1, ↓reduceIte, Nat.reduceEqDiff, Nat.reduceLT, Nat.reduceLeDiff, Nat.reduceAdd, Nat.reduceMul, Nat.reduceSub, not_true_eq_false, not_false_eq_true, and_true, true_and, and_false, false_and, or_true, true_or, or_false, false_or, Nat.lt_irrefl, Nat.le_refl, Nat.add_zero, Bool.false_eq_true, ↓pu_gI, nd_le, nd_leT, nd_lt, nd_ltT, nd_eq, nd_eqT]
        have hne : ¬ nI i = -nI 1 := by
          rw [pu_em1 (by omega)]
          exact id
        rw [show (-1 : Int32) = -nI 1 from rfl, if_neg hne]
        exact (bn1 kw).trans j39
    · obtain ⟨a, e, m, j, F⟩ := md_counsels h.1 hI (show n ≤ 2 by omega)
      obtain ⟨j1, j2⟩ := j
      obtain ⟨j3, j4⟩ := j2 nz
      refine ⟨a, ?_, m, F⟩
      rw [if_pos rfl]
      rcases hb with rfl | ⟨i, hi, rfl⟩
      · have g1 : ¬ (-nI 1 : Int32) < -nI 1 := by decide +kernel
        have g2 : (-nI 1 : Int32) < nI n := by
          refine Int32.lt_iff_toInt_lt.mpr ?_
          rw [nI_toInt (by omega), show (-nI 1 : Int32).toInt = -1 by decide +kernel]
          omega
        simp (disch := omega) only [Md_council, pl_0, pl_1, pl_2, pl_3, pl_4, pl_5, pl_6, pl_7, pl_8, pl_9, pl_10, pl_11, pl_12, pl_13, pl_14, pl_15, pl_16, pl_17, pl_18, pl_19, pl_20, pl_21, pl_30, pl_40, pl_50, pl_51, pl_60, pl_70, pl_71, pl_99, pl_100, pl_160, pl_240, pl_256, pl_300, pl_999, pl_1000, pl_1280, pl_9999, pl_10000, pu_neg, pu_nn, pu_le, pu_lt, pu_eq, pu_cl, pu_in, pu_g, ↓pu_let, ↓pu_bind, pu_m1, pu_add, pu_mul, Nat.not_lt_zero, if_false, if_true, Nat.zero_le, pu_d2, pu_d100, pu_em1, ↓reduceIte, Nat.reduceEqDiff, Nat.reduceLT, Nat.reduceLeDiff, Nat.reduceAdd, Nat.reduceMul, Nat.reduceSub, not_true_eq_false, not_false_eq_true, and_true, true_and, and_false, false_and, or_true, true_or, or_false, false_or, Nat.lt_irrefl, Nat.le_refl, Nat.add_zero, Bool.false_eq_true, ↓pu_gI, nd_le, nd_leT, nd_lt, nd_ltT, nd_eq, nd_eqT, g1, g2, e, j1.1]
      · have g1 : ¬ nI i < -nI 1 := fun q => by
          have h1 := Int32.lt_iff_toInt_lt.mp q
          rw [nI_toInt (by omega), show (-nI 1 : Int32).toInt = -1 by decide +kernel] at h1
          omega
        have hi2 : i = 0 ∨ i = 1 := by omega
        rcases hi2 with rfl | rfl
        · simp (disch := omega) only [Md_council, pl_0, pl_1, pl_2, pl_3, pl_4, pl_5, pl_6, pl_7, pl_8, pl_9, pl_10, pl_11, pl_12, pl_13, pl_14, pl_15, pl_16, pl_17, pl_18, pl_19, pl_20, pl_21, pl_30, pl_40, pl_50, pl_51, pl_60, pl_70, pl_71, pl_99, pl_100, pl_160, pl_240, pl_256, pl_300, pl_999, pl_1000, pl_1280, pl_9999, pl_10000, pu_neg, pu_nn, pu_le, pu_lt, pu_eq, pu_cl, pu_in, pu_g, ↓pu_let, ↓pu_bind, pu_m1, pu_add, pu_mul, Nat.not_lt_zero, if_false, if_true, Nat.zero_le, pu_d2, pu_d100, pu_em1, ↓reduceIte, Nat.reduceEqDiff, Nat.reduceLT, Nat.reduceLeDiff, Nat.reduceAdd, Nat.reduceMul, Nat.reduceSub, not_true_eq_false, not_false_eq_true, and_true, true_and, and_false, false_and, or_true, true_or, or_false, false_or, Nat.lt_irrefl, Nat.le_refl, Nat.add_zero, Bool.false_eq_true, ↓pu_gI, nd_le, nd_leT, nd_lt, nd_ltT, nd_eq, nd_eqT, g1, e, j3 (by omega)]
        · simp (disch := omega) only [Md_council, pl_0, pl_1, pl_2, pl_3, pl_4, pl_5, pl_6, pl_7, pl_8, pl_9, pl_10, pl_11, pl_12, pl_13, pl_14, pl_15, pl_16, pl_17, pl_18, pl_19, pl_20, pl_21, pl_30, pl_40, pl_50, pl_51, pl_60, pl_70, pl_71, pl_99, pl_100, pl_160, pl_240, pl_256, pl_300, pl_999, pl_1000, pl_1280, pl_9999, pl_10000, pu_neg, pu_nn, pu_le, pu_lt, pu_eq, pu_cl, pu_in, pu_g, ↓pu_let, ↓pu_bind, pu_m1, pu_add, pu_mul, Nat.not_lt_zero, if_false, if_true, Nat.zero_le, pu_d2, pu_d100, pu_em1, ↓reduceIte, Nat.reduceEqDiff, Nat.reduceLT, Nat.reduceLeDiff, Nat.reduceAdd, Nat.reduceMul, Nat.reduceSub, not_true_eq_false, not_false_eq_true, and_true, true_and, and_false, false_and, or_true, true_or, or_false, false_or, Nat.lt_irrefl, Nat.le_refl, Nat.add_zero, Bool.false_eq_true, ↓pu_gI, nd_le, nd_leT, nd_lt, nd_ltT, nd_eq, nd_eqT, g1, e, j4 (by omega)]
  by_cases hz : p2 = -nI 1
  · exact good (Or.inl hz)
  rcases pu_ix p2 n (by omega) with h2 | h2 | ⟨i, hi, rfl⟩
  · exact five (Or.inl ⟨h2, hz⟩)
  · exact five (Or.inr h2)
  · exact good (Or.inr ⟨i, hi, rfl⟩)
end CM
