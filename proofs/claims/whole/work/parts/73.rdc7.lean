/-! the class's reader: all items -/
section RDI
variable {g : Nat → Int32} {N : Nat} {σ a τ : nm_St} {p q c : Nat} {f : Int32} {T V : is_T}
theorem tr_l30s (o1 o2 : Nat) (K : nm_St → Option (Int32 × nm_St)) {m i : Nat} (h : TxC g N σ a p (-nI 1) c T) (hi : i ≤ 160) (e1 : Tr_readItem a = some ((), τ)) (t : TxC g N σ τ q f c V) : Tr_readAll_l30 o1 o2 K (m + 1) (nI i) a = if nI q < nI N then (Tr_readSign (nI 59) (nm_pI τ 42 5 (nI (c + 1)))).bind fun q11 => Tr_readAll_l30 o1 o2 K m (nI (i + 1)) q11.2 else K (nm_pI τ 42 5 (nI (c + 1))) := by
  have t9 := t.ct (c + 1)
  rw [Tr_readAll_l30]
  simp (disch := omega) only [pl_160, pl_1, pl_59, pu_lt, nd_lt, if_false, h.1.2.2.1, if_true, e1, pu_bind, pu_let, t.1.2.2.2, pu_add, t9.1.1, t9.1.2.1]
theorem tr_l30o (o1 o2 : Nat) (K : nm_St → Option (Int32 × nm_St)) {m i k : Nat} (h : TxC g N σ a p (nI k) c T) (hk : k < 2147483648) (hi : i < 2147483648) : Tr_readAll_l30 o1 o2 K (m + 1) (nI i) a = K a := by
  rw [Tr_readAll_l30]
  by_cases x : i ≤ 160 <;> simp (disch := omega) only [pl_0, pl_1, pl_2, pl_3, pl_4, pl_5, pl_6, pl_7, pl_8, pl_9, pl_10, pl_11, pl_12, pl_13, pl_14, pl_15, pl_16, pl_17, pl_18, pl_19, pl_20, pl_21, pl_30, pl_40, pl_50, pl_51, pl_60, pl_70, pl_71, pl_99, pl_100, pl_160, pl_240, pl_256, pl_300, pl_999, pl_1000, pl_1280, pl_9999, pl_10000, pu_neg, pu_nn, pu_le, pu_lt, pu_eq, pu_cl, pu_in, pu_g, ↓pu_let, ↓pu_bind, pu_m1, pu_add, pu_mul, Nat.not_lt_zero, if_false, if_true, Nat.zero_le, pu_d2, pu_d100, pu_em1, ↓reduceIte, Nat.reduceEqDiff, Nat.reduceLT, Nat.reduceLeDiff, Nat.reduceAdd, Nat.reduceMul, Nat.reduceSub, not_true_eq_false, not_false_eq_true, and_true, true_and, and_false, false_and, or_true, true_or, or_false, false_or, Nat.lt_irrefl, Nat.le_refl, Nat.add_zero, Bool.false_eq_true, ↓pu_gI, nd_le, nd_leT, nd_lt, nd_ltT, nd_eq, nd_eqT, h.1.2.2.1]
theorem tx_l {k : Nat} {f : Nat} (e : itS g N T p = .inl f) : txS g N (k + 1) p T c = .inl f := by
  unfold txS
  rw [e]
theorem tx_r {k : Nat} (e : itS g N T p = .inr (q, V)) : txS g N (k + 1) p T c = if q < N then (if g q = nI 59 then txS g N k (q + 1) V (c + 1) else .inl q) else .inr (V, c + 1) := by
  unfold txS
  rw [e]
  cases k <;> rfl
theorem tr_l30 (o1 o2 : Nat) (K : nm_St → Option (Int32 × nm_St)) : ∀ k fuel i p c T a, TxC g N σ a p (-nI 1) c T → p ≤ N → IslI T → i ≤ p → N + 1 ≤ k + p → k < fuel → (∀ f, txS g N k p T c = .inl f → f ≤ N + 5 ∧ ∃ τ q d V, Tr_readAll_l30 o1 o2 K fuel (nI i) a = K τ ∧ TxC g N σ τ q (nI f) d V) ∧ ∀ V d, txS g N k p T c = .inr (V, d) → IslI V ∧ T 0 6 ≤ V 0 6 ∧ ∃ τ q, Tr_readAll_l30 o1 o2 K fuel (nI i) a = K τ ∧ TxC g N σ τ q (-nI 1) d V := by
  intro k
  induction k with
  | zero => intro fuel i p c T a h hp hI hi hk; omega
  | succ k ih =>
    intro fuel i p c T a h hp hI hi hk hf
    have hN := h.2.2.2.2
    obtain ⟨m, rfl⟩ : ∃ m, fuel = m + 1 + 1 := ⟨fuel - 2, by omega⟩
    have R := tr_item h hp hI
    cases e : itS g N T p with
    | inl f =>
      have hb := it_l3 hp e
      obtain ⟨τ, q, e1, t⟩ := R.1 f e
      have t9 := t.ct (c + 1)
      have ks := tr_sign_o t9 rfl (show f < 2147483648 by omega) (nI 59)
      have st := tr_l30s o1 o2 K (m := m + 1) (i := i) h (by omega) e1 t
      have so := tr_l30o o1 o2 K (m := m) (i := i + 1) t9 (by omega) (by omega)
      rw [ks, pu_bind] at st
      dsimp only at st
      rw [so, ite_self] at st
      refine ⟨fun f' hf' => ?_, fun V d hf' => ?_⟩
      · rw [tx_l e] at hf'
        injection hf' with hf'
        subst hf'
        exact ⟨hb, _, q, c + 1, T, st, t9⟩
      · rw [tx_l e] at hf'
        cases hf'
    | inr qV =>
      obtain ⟨q, V⟩ := qV
      have r := it_r3 hI hp e
      obtain ⟨τ, e1, t⟩ := R.2 q V e
      have t9 := t.ct (c + 1)
      have st := tr_l30s o1 o2 K (m := m + 1) (i := i) h (by omega) e1 t
      have py : (nI q < nI N) ↔ (q < N) := Iff.of_eq (pu_lt (show q < 2147483648 by omega) (show N < 2147483648 by omega))
      by_cases y : q < N
      · rw [if_pos (show nI q < nI N from py.mpr y)] at st
        by_cases z : g q = nI 59
        · have et : txS g N (k + 1) p T c = txS g N k (q + 1) V (c + 1) := (tx_r e).trans ((if_pos y).trans (if_pos z))
          rw [et]
          have ks := tr_sign_t t9 r.2.1 ⟨y, z⟩
          rw [ks, pu_bind] at st
          dsimp only at st
          have I := ih (m + 1) (i + 1) (q + 1) (c + 1) V _ (t9.to (q + 1)) (by omega) r.2.2.1 (by omega) (by omega) (by omega)
          refine ⟨fun f hf => ?_, fun W d hd => ?_⟩
          · obtain ⟨h1, ρ, q2, d, W, h2, h3⟩ := I.1 f hf
            exact ⟨h1, ρ, q2, d, W, st.trans h2, h3⟩
          · obtain ⟨h1, h0, ρ, q2, h2, h3⟩ := I.2 W d hd
            exact ⟨h1, Nat.le_trans r.2.2.2 h0, ρ, q2, st.trans h2, h3⟩
        · have et : txS g N (k + 1) p T c = .inl q := (tx_r e).trans ((if_pos y).trans (if_neg z))
          rw [et]
          have ks := tr_sign_f t9 r.2.1 (s := 59) (fun w => z w.2)
          have t10 := t9.ft (nI q)
          have so := tr_l30o o1 o2 K (m := m) (i := i + 1) t10 (by omega) (by omega)
          rw [ks, pu_bind] at st
          dsimp only at st
          rw [so] at st
          refine ⟨fun f' hf' => ?_, fun V d hf' => by cases hf'⟩
          injection hf' with hf'
          subst hf'
          exact ⟨by omega, _, q, c + 1, V, st, t10⟩
      · have et : txS g N (k + 1) p T c = .inr (V, c + 1) := (tx_r e).trans (if_neg y)
        rw [if_neg (show ¬ nI q < nI N from fun x => y (py.mp x))] at st
        rw [et]
        refine ⟨fun f' hf' => (by cases hf'), fun W d hd => ?_⟩
        injection hd with hd
        injection hd with hA hB
        subst hA hB
        exact ⟨r.2.2.1, r.2.2.2, _, q, st, t9⟩
end RDI
