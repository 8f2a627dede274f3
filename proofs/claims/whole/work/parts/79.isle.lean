/-! the model's reader: all items; an island told, both sides -/
section MIT
variable {g : Nat → Int32} {N s : Nat} {T0 T V : is_T} {σ a b : nm_St} {p : Nat}
theorem mb_lt {w : Nat} (hw : w < 8) (h : ltN g N p (wdL w) = (wdL w).length) (hn : ltN g N p (wbL w) = ltN g N p (wdL w)) : ∀ n, n ≤ 8 → mbS g N p n = if w < n then (wdL w).length else mbS g N p n := by
  have l := wd_len w hw
  have small : ∀ v, v < 8 → v ≠ w → ltN g N p (wbL v) ≤ 1 := fun v hv e => by
    have lv := wd_len v hv
    by_cases z : ltN g N p (wdL v) = (wdL v).length ∧ p + (wdL v).length < N ∧ g (p + (wdL v).length) = nI 32
    · exact absurd (one_word (g := g) (N := N) (p := p) hv hw (by omega) (by omega)) e
    · rw [wb_n z]
      by_cases y : 2 ≤ ltN g N p (wdL v)
      · exact absurd (one_word (g := g) (N := N) (p := p) hv hw y (by omega)) e
      · omega
  have key : ∀ n, n ≤ 8 → (w < n → mbS g N p n = (wdL w).length) ∧ (n ≤ w → mbS g N p n ≤ 1) := by
    intro n
    induction n with
    | zero => intro _; exact ⟨fun x => absurd x (Nat.not_lt_zero _), fun _ => Nat.zero_le _⟩
    | succ n ih =>
      intro hn8
      have I := ih (by omega)
      have e : mbS g N p (n + 1) = max (mbS g N p n) (ltN g N p (wbL n)) := rfl
      rw [e]
      by_cases x : n = w
      · subst x
        have i2 := I.2 (Nat.le_refl _)
        refine ⟨fun _ => ?_, fun x => absurd x (by omega)⟩
        rw [hn, h, Nat.max_eq_right (by omega)]
      · have sm := small n (by omega) x
        refine ⟨fun y => ?_, fun y => ?_⟩
        · rw [I.1 (by omega), Nat.max_eq_left (by omega)]
        · have := I.2 (by omega)
          omega
  intro n hn8
  by_cases x : w < n
  · rw [if_pos x]
    exact (key n hn8).1 x
  · rw [if_neg x]
theorem mb_mo (h : wdS g N p 8 = 0) : ∀ n, n ≤ 8 → mbS g N p n = moS g N p n := by
  intro n
  induction n with
  | zero => intro _; rfl
  | succ n ih =>
    intro hn
    have e1 : mbS g N p (n + 1) = max (mbS g N p n) (ltN g N p (wbL n)) := rfl
    have e2 : moS g N p (n + 1) = max (moS g N p n) (ltN g N p (wdL n)) := rfl
    rw [e1, e2, ih (by omega), wb_n (fun x => wdS_0 8 h n (by omega) x.1)]
theorem md_j26 (h : TxM g N s T0 σ a p T) (hp : p ≤ N) (hI : IslI T) (h8 : wdS g N p 8 = 2 → T 0 6 ≠ 8) : RM g N s T0 σ T (itS g N T p) (Md_item_j26 a) := by
  obtain ⟨hN, hs⟩ := h.kn
  have h6 := hI.1
  have no : ∀ k, (∀ w, w < 8 → ltN g N p (wbL w) ≠ (wbL w).length) → p + mbS g N p 8 = k → itS g N T p = .inl k → RM g N s T0 σ T (itS g N T p) (Md_item_j26 a) := fun k hf hk he => by
    have kw := md_word_f h hp hf
    rw [hk] at kw
    have st : Md_item_j26 a = some (nI 0, nm_pI a 70 27 (nI k)) := by
      unfold Md_item_j26
      rw [kw, pu_bind]
      rw [if_pos (show ((-nI 1, nm_pI a 70 27 (nI k)) : Int32 × nm_St).1 = -1 from pl_m1), pl_0]
    rw [he, st]
    refine ⟨fun k' e => ?_, fun q V e => by cases e⟩
    injection e with e
    subst e
    exact ⟨_, p, rfl, h.wr (nI k), pI_eq _ _ _ _⟩
  cases e : wdS g N p 8 with
  | zero =>
    have W := wdS_0 8 e
    refine no (p + moS g N p 8) (fun w hw x => W w hw (wb_full x).1) ?_ (it_0 e)
    rw [mb_mo e 8 (Nat.le_refl _)]
  | succ w =>
    have ww := wdS_w 8 w e
    have hw := ww.1
    have l := wd_len w hw
    have he := wd_end hw ww.2
    have it := it_n (T := T) e (fun x => h8 (by omega))
    have W8 : w = 1 → T 0 6 < 8 := fun x => by
      have := h8 (by omega)
      omega
    by_cases z : p + (wdL w).length < N ∧ g (p + (wdL w).length) = nI 32
    · have hf := wb_f ww.2 z.1 z.2
      have kw := md_word_t h hp hw hf
      rw [wb_len w, ← Nat.add_assoc] at kw
      have t := h.to (p + (wdL w).length + 1)
      have R := md_nums t hI z hw (n := 396) W8
      have st : Md_item_j26 a = Md_item_l40 mdK (396 + 4) (nI w) (nI 0) (nm_pI a 70 24 (nI (p + (wdL w).length + 1))) := by
        unfold Md_item_j26
        rw [kw, pu_bind, if_neg (show ¬ (nI w, nm_pI a 70 24 (nI (p + (wdL w).length + 1))).1 = -1 from fun x => by
          have := pu_m1 (m := w) (by omega)
          rw [← this]
          exact x), pl_0]
        rfl
      rw [it, st]
      exact R
    · have en : ltN g N p (wbL w) = ltN g N p (wdL w) := wb_n (fun x => z x.2)
      have ei : itS g N T p = .inl (p + (wdL w).length) := by
        rw [it]
        exact ns_l (if_neg z)
      refine no (p + (wdL w).length) (fun v hv x => ?_) ?_ ei
      · by_cases e2 : v = w
        · subst e2
          have := wb_full x
          exact z this.2
        · have lv := wd_len v hv
          have := (wb_full x).1
          exact e2 (one_word (g := g) (N := N) (p := p) hv hw (by omega) (by omega))
      · rw [mb_lt hw ww.2 en 8 (Nat.le_refl _), if_pos hw]
theorem md_item (h : TxM g N s T0 σ a p T) (hp : p ≤ N) (hI : IslI T) : RM g N s T0 σ T (itS g N T p) (Md_item a) := by
  obtain ⟨hN, hs⟩ := h.kn
  have h6 := hI.1
  have kc := h.2.2.1.c
  have ks := md_st h hp
  by_cases z : ltN g N p (wdL 1) = (wdL 1).length
  · rw [if_pos z] at ks
    have e2 : wdS g N p 8 = 2 := wdS_p 8 (Nat.le_refl _) 1 (by omega) z
    have st : Md_item a = if nI (T 0 6) = 8 then some (nI 0, nm_pI a 70 27 (nI p)) else Md_item_j26 a := by
      unfold Md_item
      refine (bn1 ks).trans ?_
      dsimp only
      rw [kc, h.kp, md_wrong, pu_bind, bz0, pu_g]
    by_cases y : T 0 6 = 8
    · rw [st, if_pos (show nI (T 0 6) = 8 by rw [y, pl_8]), it_f e2 y]
      refine ⟨fun k' e => ?_, fun q V e => by cases e⟩
      injection e with e
      subst e
      exact ⟨_, p, rfl, h.wr (nI p), pI_eq _ _ _ _⟩
    · rw [st, if_neg (show ¬ nI (T 0 6) = 8 by rw [pl_8, pu_eq (by omega) (by omega)]; exact y)]
      exact md_j26 h hp hI (fun _ => y)
  · rw [if_neg z] at ks
    have st : Md_item a = Md_item_j26 a := by
      unfold Md_item
      exact bn0 ks
    rw [st]
    refine md_j26 h hp hI (fun x => ?_)
    exact absurd ((wdS_w 8 1 x).2) z
theorem md_l62 (K : Int32 → Int32 → nm_St → Option (Int32 × nm_St)) : ∀ k fuel p c T a, TxM g N s T0 σ a p T → p ≤ N → IslI T → N + 1 ≤ k + p → k + 1 < fuel → (∀ f, txS g N k p T c = .inl f → ∃ τ q V x, ((Md_item a).bind fun q9 => Md_island_l62 K fuel (nI (c + 1)) q9.1 q9.2) = K x (nI 0) τ ∧ TxM g N s T0 σ τ q V ∧ τ.1 70 27 = nI f) ∧ ∀ V d, txS g N k p T c = .inr (V, d) → ∃ τ q, ((Md_item a).bind fun q9 => Md_island_l62 K fuel (nI (c + 1)) q9.1 q9.2) = K (nI d) (nI 1) τ ∧ TxM g N s T0 σ τ q V := by
  intro k
  induction k with
  | zero => intro fuel p c T a h hp hI hk; omega
  | succ k ih =>
    intro fuel p c T a h hp hI hk hf
    obtain ⟨hN, hs⟩ := h.kn
    obtain ⟨m, rfl⟩ : ∃ m, fuel = m + 1 + 1 := ⟨fuel - 2, by omega⟩
    have R := md_item h hp hI
    have off : ∀ (n : Nat) (x : Int32) (τ : nm_St), Md_island_l62 K (n + 1) x (nI 0) τ = K x (nI 0) τ := fun n x τ => by
      rw [Md_island_l62, if_pos nI_0]
    cases e : itS g N T p with
    | inl f =>
      obtain ⟨τ, q, e1, t, t7⟩ := R.1 f e
      have et : txS g N (k + 1) p T c = .inl f := tx_l e
      rw [et, e1, pu_bind]
      refine ⟨fun f' hf' => ?_, fun V d hf' => by cases hf'⟩
      injection hf' with hf'
      subst hf'
      exact ⟨τ, q, T, nI (c + 1), off _ _ _, t, t7⟩
    | inr qV =>
      obtain ⟨q, V⟩ := qV
      have r := it_r3 hI hp e
      obtain ⟨τ, e1, t⟩ := R.2 q V e
      have et := tx_r (c := c) (k := k) e
      have on : ¬ nI 1 = 0 := by decide +kernel
      rw [et, e1, pu_bind]
      have st : Md_island_l62 K (m + 1 + 1) (nI (c + 1)) (nI 1) τ = if nI N ≤ nI q then K (nI (c + 1)) (nI 1) τ else (nm_g (nm_in (nI (160 * s + q)) 1280) (if Int64.toInt32 (τ.2 82 (nI (160 * s + q)).toNatClampNeg) = nI 59 then ((Md_item (nm_pI τ 70 24 (nI (q + 1)))).bind fun q15 => Md_island_l62 K (m + 1) (nI (c + 1 + 1)) q15.1 q15.2) else Md_island_l62 K (m + 1) (nI (c + 1)) (nI 0) (nm_pI τ 70 27 (nI q)))) := by
        rw [Md_island_l62, if_neg on, t.ke, t.kp, md_wrong, pu_bind, t.kb, pu_add, pl_59, pl_1, pu_add, pu_add, pu_let]
      show (∀ f, _ = Sum.inl f → ∃ τ' q' V' x, Md_island_l62 K (m + 1 + 1) (nI (c + 1)) (nI 1) τ = K x (nI 0) τ' ∧ _) ∧ ∀ W d, _ = Sum.inr (W, d) → ∃ τ' q', Md_island_l62 K (m + 1 + 1) (nI (c + 1)) (nI 1) τ = K (nI d) (nI 1) τ' ∧ _
      rw [st]
      by_cases y : q < N
      · rw [if_pos y, if_neg (show ¬ nI N ≤ nI q by rw [pu_le (by omega) (by omega)]; omega), gin (show 160 * s + q < 1280 by omega) (by omega), pu_cl (by omega), t.kg y]
        by_cases z : g q = nI 59
        · rw [if_pos z, if_pos z]
          exact ih (m + 1) (q + 1) (c + 1) V _ (t.to (q + 1)) (by omega) r.2.2.1 (by omega) (by omega)
        · rw [if_neg z, if_neg z, off]
          refine ⟨fun f' hf' => ?_, fun V d hf' => by cases hf'⟩
          injection hf' with hf'
          subst hf'
          exact ⟨_, q, V, nI (c + 1), rfl, t.wr (nI q), pI_eq _ _ _ _⟩
      · rw [if_neg y, if_pos (show nI N ≤ nI q by rw [pu_le (by omega) (by omega)]; omega)]
        refine ⟨fun f' hf' => (by cases hf'), fun W d hd => ?_⟩
        injection hd with hd
        injection hd with hA hB
        subst hA hB
        exact ⟨τ, q, rfl, t⟩
end MIT
section MIS
variable {σ a : nm_St} {T U : is_T} {E : Nat → Nat → Int64}
/-- the model's half of island -/
theorem md_isl (h : MF σ T U E) (hP : PF T U) {s : Nat} (hs : s < 8) (e0 : ckN U s = 0) (e1 : U 0 s = 1) : (∀ f, txS (eN E s) (U 2 s) (U 2 s + 1) 0 T 0 = .inl f → ∃ τ, Md_island (nI s) σ = some (-nI 6, rfM τ 6) ∧ τ.1 70 6 = nI f ∧ MdR τ T ∧ Fr [10, 11, 13] σ τ) ∧ ∀ V d, txS (eN E s) (U 2 s) (U 2 s + 1) 0 T 0 = .inr (V, d) → ∃ τ, Md_island (nI s) σ = some (nI d, τ) ∧ τ.1 70 6 = -nI 1 ∧ MdR τ V ∧ Fr [10, 11, 13] σ τ := by
  have hsz := (hP.2 s hs).1.2.2
  have k := md_ck h hP hs
  rw [if_pos e0] at k
  obtain ⟨ρ, ea, ka, fa, fb⟩ := md_all_st (c := 87) h.1 (by omega)
  have F0 : Fr [10] σ ρ := fun k j hk => by
    refine ⟨fa k j ?_, by rw [fb]⟩
    rintro rfl
    rw [show rg 87 j = 10 from rfl] at hk
    exact absurd hk (by decide)
  have ks : ρ.1 80 s = nI (U 2 s) := by
    rw [(F0 80 s rfl).1]; exact h.size hs e1
  have t : TxM (eN E s) (U 2 s) s T σ (nm_pI (nm_pI (nm_pI (nm_pI ρ 70 23 (nI (160 * s))) 70 24 (nI 0)) 70 25 (nI (U 2 s))) 70 6 (-nI 1)) 0 T := by
    have F1 : Fr [10, 13] σ (nm_pI (nm_pI (nm_pI (nm_pI ρ 70 23 (nI (160 * s))) 70 24 (nI 0)) 70 25 (nI (U 2 s))) 70 6 (-nI 1)) := ((((F0.mono rfl).pI _ rfl).pI _ rfl).pI _ rfl).pI _ rfl
    refine ⟨⟨?_, ?_, ?_, pI_eq _ _ _ _⟩, fun i hi => ?_, h.1.fr F1 rfl, h.2.2.2.fr F1 rfl, (((ka.ne (by omega) _ _).ne (by omega) _ _).ne (by omega) _ _).ne (by omega) _ _, F1.mono rfl, hsz, hs⟩
    · rw [pI_ne _ _ (by omega), pI_ne _ _ (by omega), pI_ne _ _ (by omega), pI_eq]
    · rw [pI_ne _ _ (by omega), pI_ne _ _ (by omega), pI_eq]
    · rw [pI_ne _ _ (by omega), pI_eq]
    · rw [(F1 82 (160 * s + i) rfl).2, h.el hs hi]
      rfl
  have I := md_l62 (fun (e18 : Int32) (e19 : Int32) (s17 : nm_St) => Md_island_j133 e18 e19 s17) (U 2 s + 1) 400 0 0 T _ t (Nat.zero_le _) hP.1 (Nat.le_refl _) (by omega)
  have st : Md_island (nI s) σ = ((Md_item (nm_pI (nm_pI (nm_pI (nm_pI ρ 70 23 (nI (160 * s))) 70 24 (nI 0)) 70 25 (nI (U 2 s))) 70 6 (-nI 1))).bind fun q9 => Md_island_l62 (fun (e18 : Int32) (e19 : Int32) (s17 : nm_St) => Md_island_j133 e18 e19 s17) 400 (nI (0 + 1)) q9.1 q9.2) := by
    have kz : (nm_pI (nm_pI ρ 70 23 (nI (160 * s))) 70 24 (nI 0)).1 80 s = nI (U 2 s) := by
      rw [pI_ne _ _ (by omega), pI_ne _ _ (by omega)]; exact ks
    unfold Md_island
    rw [bn0 k]
    dsimp only
    rw [pl_0, ea, pu_bind, pl_160, pu_mul, pu_let, pu_let, gin (show s < 8 from hs) (by omega), pu_cl (by omega), kz, pu_let, pu_let, pl_1]
  refine ⟨fun f hf => ?_, fun V d hd => ?_⟩
  · obtain ⟨τ, q, V, x, i1, i2, i3⟩ := I.1 f hf
    obtain ⟨ν, el, u⟩ := md_all_ld i2.2.2.2.2.1 (by omega)
    have k27 : ν.1 70 27 = nI f := by rw [(u.2 70 27 rfl).1]; exact i3
    have kn := md_no (n := 6) (by omega) (by omega) (nm_pI ν 70 6 (nI f))
    have u6 : Fr [13] ν (nm_pI ν 70 6 (nI f)) := (Fr.rf _ _).pI _ rfl
    refine ⟨nm_pI ν 70 6 (nI f), ?_, pI_eq _ _ _ _, u.1.fr u6 rfl, (i2.2.2.2.2.2.1.tr (u.2.mono rfl)).tr (u6.mono rfl)⟩
    rw [st, i1]
    unfold Md_island_j133
    simp (disch := omega) only [pl_0, pl_1, pl_2, pl_3, pl_4, pl_5, pl_6, pl_7, pl_8, pl_9, pl_10, pl_11, pl_12, pl_13, pl_14, pl_15, pl_16, pl_17, pl_18, pl_19, pl_20, pl_21, pl_30, pl_40, pl_50, pl_51, pl_60, pl_70, pl_71, pl_99, pl_100, pl_160, pl_240, pl_256, pl_300, pl_999, pl_1000, pl_1280, pl_9999, pl_10000, pu_neg, pu_nn, pu_le, pu_lt, pu_eq, pu_cl, pu_in, pu_g, ↓pu_let, ↓pu_bind, pu_m1, pu_add, pu_mul, Nat.not_lt_zero, if_false, if_true, Nat.zero_le, pu_d2, pu_d100, pu_em1, ↓reduceIte, Nat.reduceEqDiff, Nat.reduceLT, Nat.reduceLeDiff, Nat.reduceAdd, Nat.reduceMul, Nat.reduceSub, not_true_eq_false, not_false_eq_true, and_true, true_and, and_false, false_and, or_true, true_or, or_false, false_or, Nat.lt_irrefl, Nat.le_refl, Nat.add_zero, Bool.false_eq_true, ↓pu_gI, nd_le, nd_leT, nd_lt, nd_ltT, nd_eq, nd_eqT, el, k27, kn]
  · obtain ⟨τ, q, i1, i2⟩ := I.2 V d hd
    refine ⟨τ, ?_, i2.1.2.2.2, i2.2.2.1, i2.2.2.2.2.2.1⟩
    rw [st, i1]
    unfold Md_island_j133
    simp (disch := omega) only [pl_0, pl_1, pl_2, pl_3, pl_4, pl_5, pl_6, pl_7, pl_8, pl_9, pl_10, pl_11, pl_12, pl_13, pl_14, pl_15, pl_16, pl_17, pl_18, pl_19, pl_20, pl_21, pl_30, pl_40, pl_50, pl_51, pl_60, pl_70, pl_71, pl_99, pl_100, pl_160, pl_240, pl_256, pl_300, pl_999, pl_1000, pl_1280, pl_9999, pl_10000, pu_neg, pu_nn, pu_le, pu_lt, pu_eq, pu_cl, pu_in, pu_g, ↓pu_let, ↓pu_bind, pu_m1, pu_add, pu_mul, Nat.not_lt_zero, if_false, if_true, Nat.zero_le, pu_d2, pu_d100, pu_em1, ↓reduceIte, Nat.reduceEqDiff, Nat.reduceLT, Nat.reduceLeDiff, Nat.reduceAdd, Nat.reduceMul, Nat.reduceSub, not_true_eq_false, not_false_eq_true, and_true, true_and, and_false, false_and, or_true, true_or, or_false, false_or, Nat.lt_irrefl, Nat.le_refl, Nat.add_zero, Bool.false_eq_true, ↓pu_gI, nd_le, nd_leT, nd_lt, nd_ltT, nd_eq, nd_eqT]
theorem rf0C (n : Nat) (ρ : nm_St) : (∀ k j, k ≠ 53 → (if n = 0 then ρ else rfC ρ n).1 k j = ρ.1 k j) ∧ (∀ i, 1 ≤ i → (if n = 0 then ρ else rfC ρ n).1 53 i = if i = n then ρ.1 53 i + 1 else ρ.1 53 i) ∧ Fr [5] ρ (if n = 0 then ρ else rfC ρ n) := by
  by_cases z : n = 0
  · subst z
    rw [if_pos rfl]
    exact ⟨fun k j _ => rfl, fun i hi => by rw [if_neg (by omega)], Fr.rf _ _⟩
  · rw [if_neg z]
    refine ⟨fun k j hk => pI_ne _ _ (by omega), fun i hi => ?_, (Fr.rf [5] ρ).pI _ rfl⟩
    unfold rfC
    by_cases e : i = n
    · subst e
      rw [pI_eq, if_pos rfl]
    · rw [pI_ne _ _ (by omega), if_neg e]
theorem rf0M (n : Nat) (ρ : nm_St) : (∀ k j, k ≠ 71 → (if n = 0 then ρ else rfM ρ n).1 k j = ρ.1 k j) ∧ (∀ i, 1 ≤ i → (if n = 0 then ρ else rfM ρ n).1 71 i = if i = n then ρ.1 71 i + 1 else ρ.1 71 i) ∧ Fr [15] ρ (if n = 0 then ρ else rfM ρ n) := by
  by_cases z : n = 0
  · subst z
    rw [if_pos rfl]
    exact ⟨fun k j _ => rfl, fun i hi => by rw [if_neg (by omega)], Fr.rf _ _⟩
  · rw [if_neg z]
    refine ⟨fun k j hk => pI_ne _ _ (by omega), fun i hi => ?_, (Fr.rf [15] ρ).pI _ rfl⟩
    unfold rfM
    by_cases e : i = n
    · subst e
      rw [pI_eq, if_pos rfl]
    · rw [pI_ne _ _ (by omega), if_neg e]
/-- calls that change the island, the fault, count a refusal -/
def OkF {β : Type} (T U : is_T) (E : Nat → Nat → Int64) (f g : nm_St → Option (β × nm_St)) : Prop := ∃ n a V x, n ≤ 7 ∧ IslI V ∧ T 0 6 ≤ V 0 6 ∧ (∀ σ, CF σ T U E → ∃ ρ, f σ = some (a, if n = 0 then ρ else rfC ρ n) ∧ IslR ρ 2 V ∧ ρ.1 0 10 = x ∧ Fr [0, 1, 3] σ ρ) ∧ (∀ σ, MF σ T U E → ∃ ρ, g σ = some (a, if n = 0 then ρ else rfM ρ n) ∧ MdR ρ V ∧ ρ.1 70 6 = x ∧ Fr [10, 11, 13] σ ρ)
theorem ok_f {β : Type} {f g : nm_St → Option (β × nm_St)} (h : RelT σ T U E) (q : OkF T U E f g) : OkB σ f g := by
  obtain ⟨n, a, V, x, hn, hV, hle, hC, hM⟩ := q
  obtain ⟨hc, hm, hp, hx⟩ := h
  obtain ⟨ρ, e1, i1, x1, f1⟩ := hC σ hc
  obtain ⟨a1, a2, a3⟩ := rf0C n ρ
  generalize (if n = 0 then ρ else rfC ρ n) = τ at e1 a1 a2 a3
  have F1 : Fr [0, 1, 3, 5] σ τ := (f1.mono rfl).tr (a3.mono rfl)
  obtain ⟨ρ2, e2, i2, x2, f2⟩ := hM τ (hm.fr F1 rfl rfl rfl)
  obtain ⟨b1, b2, b3⟩ := rf0M n ρ2
  generalize (if n = 0 then ρ2 else rfM ρ2 n) = τ' at e2 b1 b2 b3
  have F2 : Fr [10, 11, 13, 15] τ τ' := (f2.mono rfl).tr (b3.mono rfl)
  have F : Fr [0, 1, 3, 5, 10, 11, 13, 15] σ τ' := (F1.mono rfl).tr (F2.mono rfl)
  refine ⟨a, τ, τ', e1, e2, V, U, E, ⟨(i1.fr2 a3 rfl).fr2 F2 rfl, hc.2.1.fr F rfl, hc.2.2.fr F rfl⟩, ⟨i2.fr b3 rfl, hm.2.1.fr F rfl, hm.2.2.1.fr F rfl, hm.2.2.2.fr F rfl⟩, ⟨hV, fun s hs => ?_⟩, hx.1.fr F rfl rfl, ?_, ?_, hx.2.2.2.fr F rfl rfl⟩
  · have := hp.2 s hs
    exact ⟨this.1, this.2.1, fun e => by have := this.2.2 e; omega⟩
  · rw [(F2 0 10 rfl).1, (a3 0 10 rfl).1, x1, (b3 70 6 rfl).1, x2]
  · intro i h1 h7
    have hr := hx.2.2.1 i h1 h7
    rw [(F2 53 i rfl).1, a2 i h1, b2 i h1, (f1 53 i rfl).1, (f2 71 i rfl).1, (F1 71 i rfl).1, hr]
theorem op_island (h : RelT σ T U E) (p1 : Int32) : OkB σ (Nm_island p1) (Md_island p1) := by
  have hP := h.2.2.1
  have hI := hP.1
  have ref : ∀ b, 1 ≤ b → b ≤ 3 → (∀ σ, CF σ T U E → Nm_checkRow p1 σ = some (-nI b, σ)) → (∀ σ, MF σ T U E → Md_wanted p1 σ = some (-nI b, σ)) → OkQ T U E (Nm_island p1) (Md_island p1) := fun b h1 h3 hA hB => by
    refine qno (b := -nI b) b h1 (by omega) (fun σ h => ?_) (fun σ h => ?_)
    · unfold Nm_island
      refine (bnr (hA σ h) h1 (by omega)).trans ?_
      dsimp only
      rw [nm_ref h1 (by omega), pu_bind]
    · unfold Md_island
      refine (bnr (hB σ h) h1 (by omega)).trans ?_
      dsimp only
      rw [md_no h1 (by omega), pu_bind]
  rcases pu_ix p1 8 (by omega) with h1 | h1 | ⟨s, hs, rfl⟩
  · exact ok_q h (ref 1 (by omega) (by omega) (fun σ _ => nm_ck_lo h1) (fun σ _ => md_ck_lo h1))
  · exact ok_q h (ref 1 (by omega) (by omega) (fun σ _ => nm_ck_hi h1) (fun σ _ => md_ck_hi h1))
  have hl := ck_le U s
  by_cases ck : ¬ ckN U s = 0
  · exact ok_q h (ref (ckN U s) (by omega) (by omega) (fun σ h => by rw [nm_ck h hP hs, if_neg ck]) (fun σ h => by rw [md_ck h hP hs, if_neg ck]))
  replace ck := Decidable.not_not.mp ck
  have e0 : U 0 s = 1 := by
    have := (hP.2 s hs).1.1
    unfold ckN at ck
    by_cases a : U 0 s = 2
    · rw [if_pos a] at ck; omega
    · rw [if_neg a] at ck
      by_cases b : U 0 s = 0
      · rw [if_pos b] at ck; omega
      · omega
  have c6 : ¬ (6 : Nat) = 0 := by omega
  cases e : txS (eN E s) (U 2 s) (U 2 s + 1) 0 T 0 with
  | inl f =>
    refine ok_f h ⟨6, -nI 6, T, nI f, by omega, hI, Nat.le_refl _, fun σ hc => ?_, fun σ hm => ?_⟩
    · obtain ⟨-, τ, k1, k2, k3⟩ := (nm_islC hc hP hs ck).1 f e
      exact ⟨τ, by rw [if_neg c6]; exact k1, hc.1.fr2 k3 rfl, k2, k3.mono rfl⟩
    · obtain ⟨τ, k1, k2, k3, k4⟩ := (md_isl hm hP hs ck e0).1 f e
      exact ⟨τ, by rw [if_neg c6]; exact k1, k3, k2, k4⟩
  | inr Vd =>
    obtain ⟨V, d⟩ := Vd
    obtain ⟨hV, hle, -⟩ := (nm_islC h.1 hP hs ck).2 V d e
    refine ok_f h ⟨0, nI d, V, -nI 1, by omega, hV, hle, fun σ hc => ?_, fun σ hm => ?_⟩
    · obtain ⟨-, -, τ, k1, k2, k3, k4⟩ := (nm_islC hc hP hs ck).2 V d e
      exact ⟨τ, by rw [if_pos rfl]; exact k1, k3, k2, k4⟩
    · obtain ⟨τ, k1, k2, k3, k4⟩ := (md_isl hm hP hs ck e0).2 V d e
      exact ⟨τ, by rw [if_pos rfl]; exact k1, k3, k2, k4⟩
end MIS
