/-! the class's reader: items of one number -/
/-- an item read (or not) -/
def RI (g : Nat → Int32) (N : Nat) (σ : nm_St) (c : Nat) (T : is_T) (r : Sum Nat (Nat × is_T)) (res : Option (Unit × nm_St)) : Prop := (∀ k, r = .inl k → ∃ τ q, res = some ((), τ) ∧ TxC g N σ τ q (nI k) c T) ∧ ∀ q V, r = .inr (q, V) → ∃ τ, res = some ((), τ) ∧ TxC g N σ τ q (-nI 1) c V
theorem RI.l {g : Nat → Int32} {N : Nat} {σ : nm_St} {c : Nat} {T : is_T} {r : Sum Nat (Nat × is_T)} {res : Option (Unit × nm_St)} {k q : Nat} {τ : nm_St} (e : r = .inl k) (h1 : res = some ((), τ)) (h2 : TxC g N σ τ q (nI k) c T) : RI g N σ c T r res := by
  refine ⟨fun k' e' => ?_, fun q' V e' => ?_⟩
  · rw [e] at e'
    injection e' with e'
    subst e'
    exact ⟨τ, q, h1, h2⟩
  · rw [e] at e'; cases e'
theorem RI.r {g : Nat → Int32} {N : Nat} {σ : nm_St} {c : Nat} {T V : is_T} {r : Sum Nat (Nat × is_T)} {res : Option (Unit × nm_St)} {q : Nat} {τ : nm_St} (e : r = .inr (q, V)) (h1 : res = some ((), τ)) (h2 : TxC g N σ τ q (-nI 1) c V) : RI g N σ c T r res := by
  refine ⟨fun k' e' => ?_, fun q' V' e' => ?_⟩
  · rw [e] at e'; cases e'
  · rw [e] at e'
    injection e' with e'
    injection e' with e1 e2
    subst e1 e2
    exact ⟨τ, h1, h2⟩
theorem rd_and_l {g : Nat → Int32} {N q k : Nat} {ok ok1 ok2 : Nat → Bool} (e : ∀ v, ok v = (ok1 v && ok2 v)) (h : rdS g N ok1 q = .inl k) : rdS g N ok q = .inl k := by
  unfold rdS at h ⊢
  by_cases z : q < N ∧ g q = nI 32
  · rw [if_pos z] at h ⊢
    by_cases y : (nuG g N 4 0 (q + 1)).2 = q + 1 ∨ ok1 (nuG g N 4 0 (q + 1)).1 = false
    · rw [if_pos y] at h
      rw [if_pos (y.imp id (fun w => by rw [e, w]; rfl)), h]
    · rw [if_neg y] at h; cases h
  · rw [if_neg z] at h ⊢; exact h
theorem rd_and_r {g : Nat → Int32} {N q v q' : Nat} {ok ok1 ok2 : Nat → Bool} (e : ∀ v, ok v = (ok1 v && ok2 v)) (h : rdS g N ok1 q = .inr (v, q')) : rdS g N ok q = if ok2 v then .inr (v, q') else .inl (q + 1) := by
  unfold rdS at h ⊢
  by_cases z : q < N ∧ g q = nI 32
  · rw [if_pos z] at h ⊢
    by_cases y : (nuG g N 4 0 (q + 1)).2 = q + 1 ∨ ok1 (nuG g N 4 0 (q + 1)).1 = false
    · rw [if_pos y] at h; cases h
    · rw [if_neg y] at h
      injection h with h
      rw [h] at y ⊢
      simp only [not_or] at y
      have y1 : ok1 v = true := by
        cases w : ok1 v with
        | true => rfl
        | false => exact absurd w y.2
      cases w : ok2 v with
      | true =>
        rw [if_pos rfl, if_neg]
        rw [e, y1, w]
        exact fun x => x.elim y.1 (fun x => by cases x)
      | false =>
        have hb : ok v = false := by rw [e, w, Bool.and_false]
        rw [if_pos (show (v, q').2 = q + 1 ∨ ok (v, q').1 = false from Or.inr hb)] <;> rfl
  · rw [if_neg z] at h; cases h
section RDF
variable {g : Nat → Int32} {N : Nat} {σ a : nm_St} {p c : Nat} {f : Int32} {T : is_T}
theorem ns_l {w k : Nat} (h : rdS g N (okS T w 0 0) p = .inl k) : nsS g N T w p = .inl k := by
  unfold nsS
  rw [h]
theorem ns_1 {w v q : Nat} (hw : nuC w = 1) (h : rdS g N (okS T w 0 0) p = .inr (v, q)) : nsS g N T w p = .inr (q, doS T w v 0 0) := by
  unfold nsS
  rw [h]
  exact if_pos hw
theorem tr_one (h : TxC g N σ a p (-nI 1) c T) (hp : p ≤ N) {w j : Nat} (hw : nuC w = 1) (hd : ∀ v, doS T w v 0 0 = nm_up T 0 j v) (h1 : 6 ≤ j) (h2 : j < 12) {x1 x2 : Int32} (hok : ∀ v s, v ≤ 9999 → Nm_isWithin (nI v) x1 x2 s = some (nI (if okS T w 0 0 v then 1 else 0), s)) : RI g N σ c T (nsS g N T w p) ((Tr_readNumber x1 x2 a).bind fun q1 => (if (q1.2.1 42 6) = (-1 : Int32) then (nm_let (nm_pI q1.2 43 j q1.1) fun s3 => some ((), s3)) else some ((), q1.2))) := by
  have hN := h.2.2.2.2
  have R := tr_num h hp hok
  cases e : rdS g N (okS T w 0 0) p with
  | inl k =>
    obtain ⟨hk, τ, q, e1, t⟩ := R.1 k e
    refine RI.l (ns_l e) (bind_of e1 ?_) t
    simp (disch := omega) only [pl_0, pl_1, pl_2, pl_3, pl_4, pl_5, pl_6, pl_7, pl_8, pl_9, pl_10, pl_11, pl_12, pl_13, pl_14, pl_15, pl_16, pl_17, pl_18, pl_19, pl_20, pl_21, pl_30, pl_40, pl_50, pl_51, pl_60, pl_70, pl_71, pl_99, pl_100, pl_160, pl_240, pl_256, pl_300, pl_999, pl_1000, pl_1280, pl_9999, pl_10000, pu_neg, pu_nn, pu_le, pu_lt, pu_eq, pu_cl, pu_in, pu_g, ↓pu_let, ↓pu_bind, pu_m1, pu_add, pu_mul, Nat.not_lt_zero, if_false, if_true, Nat.zero_le, pu_d2, pu_d100, pu_em1, ↓reduceIte, Nat.reduceEqDiff, Nat.reduceLT, Nat.reduceLeDiff, Nat.reduceAdd, Nat.reduceMul, Nat.reduceSub, not_true_eq_false, not_false_eq_true, and_true, true_and, and_false, false_and, or_true, true_or, or_false, false_or, Nat.lt_irrefl, Nat.le_refl, Nat.add_zero, Bool.false_eq_true, ↓pu_gI, nd_le, nd_leT, nd_lt, nd_ltT, nd_eq, nd_eqT, t.1.2.2.1]
  | inr vq =>
    obtain ⟨v, q⟩ := vq
    obtain ⟨τ, e1, t, _⟩ := R.2 v q e
    have u := (IslU.rf t.2.2.1).up0 v h1 h2
    refine RI.r (ns_1 hw e) (bind_of e1 ?_) (by rw [hd]; exact t.isl u)
    simp (disch := omega) only [pl_0, pl_1, pl_2, pl_3, pl_4, pl_5, pl_6, pl_7, pl_8, pl_9, pl_10, pl_11, pl_12, pl_13, pl_14, pl_15, pl_16, pl_17, pl_18, pl_19, pl_20, pl_21, pl_30, pl_40, pl_50, pl_51, pl_60, pl_70, pl_71, pl_99, pl_100, pl_160, pl_240, pl_256, pl_300, pl_999, pl_1000, pl_1280, pl_9999, pl_10000, pu_neg, pu_nn, pu_le, pu_lt, pu_eq, pu_cl, pu_in, pu_g, ↓pu_let, ↓pu_bind, pu_m1, pu_add, pu_mul, Nat.not_lt_zero, if_false, if_true, Nat.zero_le, pu_d2, pu_d100, pu_em1, ↓reduceIte, Nat.reduceEqDiff, Nat.reduceLT, Nat.reduceLeDiff, Nat.reduceAdd, Nat.reduceMul, Nat.reduceSub, not_true_eq_false, not_false_eq_true, and_true, true_and, and_false, false_and, or_true, true_or, or_false, false_or, Nat.lt_irrefl, Nat.le_refl, Nat.add_zero, Bool.false_eq_true, ↓pu_gI, nd_le, nd_leT, nd_lt, nd_ltT, nd_eq, nd_eqT, t.1.2.2.1]
theorem tr_parts (h : TxC g N σ a p (-nI 1) c T) (hp : p ≤ N) (hI : IslI T) : RI g N σ c T (nsS g N T 0 p) (Tr_readParts a) := by
  have e7 : a.1 43 7 = nI (T 0 7) := h.2.2.1.2 7 (by omega) (by omega)
  have h7 := hI.2.1
  unfold Tr_readParts
  rw [e7]
  exact tr_one h hp rfl (fun v => rfl) (by omega) (by omega) (fun v s hv => wi_n (lo := T 0 7) (hi := 8) s (by omega) (by omega) hv)
theorem tr_fear (h : TxC g N σ a p (-nI 1) c T) (hp : p ≤ N) : RI g N σ c T (nsS g N T 4 p) (Tr_readFear a) := by
  unfold Tr_readFear
  exact tr_one h hp rfl (fun v => rfl) (by omega) (by omega) (fun v s hv => wi_0 (hi := 99) s (by omega) hv)
theorem tr_purse (h : TxC g N σ a p (-nI 1) c T) (hp : p ≤ N) : RI g N σ c T (nsS g N T 5 p) (Tr_readPurse a) := by
  unfold Tr_readPurse
  refine tr_one h hp rfl (fun v => rfl) (by omega) (by omega) (fun v s hv => ?_)
  have := wi_0 (hi := 9999) s (by omega) hv
  rw [decide_eq_true hv] at this
  exact this
theorem tr_goes (h : TxC g N σ a p (-nI 1) c T) (hp : p ≤ N) (hI : IslI T) : RI g N σ c T (nsS g N T 6 p) (Tr_readGoes a) := by
  have hN := h.2.2.2.2
  have h6 := hI.1
  have e6 : a.1 43 6 = nI (T 0 6) := h.2.2.1.2 6 (by omega) (by omega)
  have eo : ∀ v, okS T 6 0 0 v = (decide (v < T 0 6) && decide (T 6 v = 0)) := fun v => rfl
  have R := tr_num h hp (ok := fun v => decide (v < T 0 6)) (fun v s hv => wi_m s (by omega) hv)
  unfold Tr_readGoes
  rw [e6]
  cases e : rdS g N (fun v => decide (v < T 0 6)) p with
  | inl k =>
    obtain ⟨hk, τ, q, e1, t⟩ := R.1 k e
    have ki := is_isAt t.2.2.1 hI (m := 0) (q := 0) (by omega) (by omega)
    have kf := tr_fail_o (τ.1 42 4) t (by omega)
    refine RI.l (ns_l (rd_and_l eo e)) (bind_of e1 ?_) t
    cases b : atB T 0 0 with
    | true =>
      rw [b] at ki
      simp (disch := omega) only [Tr_readGoes_j35, pl_0, pl_1, pl_2, pl_3, pl_4, pl_5, pl_6, pl_7, pl_8, pl_9, pl_10, pl_11, pl_12, pl_13, pl_14, pl_15, pl_16, pl_17, pl_18, pl_19, pl_20, pl_21, pl_30, pl_40, pl_50, pl_51, pl_60, pl_70, pl_71, pl_99, pl_100, pl_160, pl_240, pl_256, pl_300, pl_999, pl_1000, pl_1280, pl_9999, pl_10000, pu_neg, pu_nn, pu_le, pu_lt, pu_eq, pu_cl, pu_in, pu_g, ↓pu_let, ↓pu_bind, pu_m1, pu_add, pu_mul, Nat.not_lt_zero, if_false, if_true, Nat.zero_le, pu_d2, pu_d100, pu_em1, ↓reduceIte, Nat.reduceEqDiff, Nat.reduceLT, Nat.reduceLeDiff, Nat.reduceAdd, Nat.reduceMul, Nat.reduceSub, not_true_eq_false, not_false_eq_true, and_true, true_and, and_false, false_and, or_true, true_or, or_false, false_or, Nat.lt_irrefl, Nat.le_refl, Nat.add_zero, Bool.false_eq_true, ↓pu_gI, nd_le, nd_leT, nd_lt, nd_ltT, nd_eq, nd_eqT, ki, kf, t.1.2.2.1]
    | false =>
      rw [b] at ki
      simp (disch := omega) only [Tr_readGoes_j35, pl_0, pl_1, pl_2, pl_3, pl_4, pl_5, pl_6, pl_7, pl_8, pl_9, pl_10, pl_11, pl_12, pl_13, pl_14, pl_15, pl_16, pl_17, pl_18, pl_19, pl_20, pl_21, pl_30, pl_40, pl_50, pl_51, pl_60, pl_70, pl_71, pl_99, pl_100, pl_160, pl_240, pl_256, pl_300, pl_999, pl_1000, pl_1280, pl_9999, pl_10000, pu_neg, pu_nn, pu_le, pu_lt, pu_eq, pu_cl, pu_in, pu_g, ↓pu_let, ↓pu_bind, pu_m1, pu_add, pu_mul, Nat.not_lt_zero, if_false, if_true, Nat.zero_le, pu_d2, pu_d100, pu_em1, ↓reduceIte, Nat.reduceEqDiff, Nat.reduceLT, Nat.reduceLeDiff, Nat.reduceAdd, Nat.reduceMul, Nat.reduceSub, not_true_eq_false, not_false_eq_true, and_true, true_and, and_false, false_and, or_true, true_or, or_false, false_or, Nat.lt_irrefl, Nat.le_refl, Nat.add_zero, Bool.false_eq_true, ↓pu_gI, nd_le, nd_leT, nd_lt, nd_ltT, nd_eq, nd_eqT, ki, kf, t.1.2.2.1]
  | inr vq =>
    obtain ⟨v, q⟩ := vq
    obtain ⟨τ, e1, t, tn⟩ := R.2 v q e
    have r := rd_r hp e
    have hv : v < T 0 6 := of_decide_eq_true r.2.2.1
    have ki := is_isAt_v t.2.2.1 hI (q := 0) hv (by omega)
    have e2 := rd_and_r eo e
    by_cases y : T 6 v = 0
    · rw [decide_eq_true y, if_pos rfl] at e2
      rw [if_pos y] at ki
      have km := up_moveTo t.2.2.1 hI hv (nI 1)
      refine RI.r (ns_1 rfl e2) (bind_of e1 ?_) (t.isl ((IslU.rf t.2.2.1).up 1 (r := 6) (by omega) (by omega) (by omega)))
      simp (disch := omega) only [Tr_readGoes_j35, pl_0, pl_1, pl_2, pl_3, pl_4, pl_5, pl_6, pl_7, pl_8, pl_9, pl_10, pl_11, pl_12, pl_13, pl_14, pl_15, pl_16, pl_17, pl_18, pl_19, pl_20, pl_21, pl_30, pl_40, pl_50, pl_51, pl_60, pl_70, pl_71, pl_99, pl_100, pl_160, pl_240, pl_256, pl_300, pl_999, pl_1000, pl_1280, pl_9999, pl_10000, pu_neg, pu_nn, pu_le, pu_lt, pu_eq, pu_cl, pu_in, pu_g, ↓pu_let, ↓pu_bind, pu_m1, pu_add, pu_mul, Nat.not_lt_zero, if_false, if_true, Nat.zero_le, pu_d2, pu_d100, pu_em1, ↓reduceIte, Nat.reduceEqDiff, Nat.reduceLT, Nat.reduceLeDiff, Nat.reduceAdd, Nat.reduceMul, Nat.reduceSub, not_true_eq_false, not_false_eq_true, and_true, true_and, and_false, false_and, or_true, true_or, or_false, false_or, Nat.lt_irrefl, Nat.le_refl, Nat.add_zero, Bool.false_eq_true, ↓pu_gI, nd_le, nd_leT, nd_lt, nd_ltT, nd_eq, nd_eqT, ki, km, t.1.2.2.1]
    · rw [decide_eq_false y, if_neg (by decide)] at e2
      rw [if_neg y] at ki
      have kf := tr_fail_n (nI (p + 1)) t
      have t2 := t.ft (nI (p + 1))
      refine RI.l (ns_l e2) (bind_of e1 ?_) t2
      simp (disch := omega) only [Tr_readGoes_j35, pl_0, pl_1, pl_2, pl_3, pl_4, pl_5, pl_6, pl_7, pl_8, pl_9, pl_10, pl_11, pl_12, pl_13, pl_14, pl_15, pl_16, pl_17, pl_18, pl_19, pl_20, pl_21, pl_30, pl_40, pl_50, pl_51, pl_60, pl_70, pl_71, pl_99, pl_100, pl_160, pl_240, pl_256, pl_300, pl_999, pl_1000, pl_1280, pl_9999, pl_10000, pu_neg, pu_nn, pu_le, pu_lt, pu_eq, pu_cl, pu_in, pu_g, ↓pu_let, ↓pu_bind, pu_m1, pu_add, pu_mul, Nat.not_lt_zero, if_false, if_true, Nat.zero_le, pu_d2, pu_d100, pu_em1, ↓reduceIte, Nat.reduceEqDiff, Nat.reduceLT, Nat.reduceLeDiff, Nat.reduceAdd, Nat.reduceMul, Nat.reduceSub, not_true_eq_false, not_false_eq_true, and_true, true_and, and_false, false_and, or_true, true_or, or_false, false_or, Nat.lt_irrefl, Nat.le_refl, Nat.add_zero, Bool.false_eq_true, ↓pu_gI, nd_le, nd_leT, nd_lt, nd_ltT, nd_eq, nd_eqT, ki, kf, tn, t2.1.2.2.1]
theorem tr_dies (h : TxC g N σ a p (-nI 1) c T) (hp : p ≤ N) (hI : IslI T) : RI g N σ c T (nsS g N T 7 p) (Tr_readDies a) := by
  have hN := h.2.2.2.2
  have h6 := hI.1
  have e6 : a.1 43 6 = nI (T 0 6) := h.2.2.1.2 6 (by omega) (by omega)
  have eo : ∀ v, okS T 7 0 0 v = (decide (v < T 0 6) && decide (T 6 v ≠ 3)) := fun v => rfl
  have R := tr_num h hp (ok := fun v => decide (v < T 0 6)) (fun v s hv => wi_m s (by omega) hv)
  unfold Tr_readDies
  rw [e6]
  cases e : rdS g N (fun v => decide (v < T 0 6)) p with
  | inl k =>
    obtain ⟨hk, τ, q, e1, t⟩ := R.1 k e
    have ki := is_isAt t.2.2.1 hI (m := 0) (q := 3) (by omega) (by omega)
    have kf := tr_fail_o (τ.1 42 4) t (by omega)
    refine RI.l (ns_l (rd_and_l eo e)) (bind_of e1 ?_) t
    cases b : atB T 3 0 with
    | true =>
      rw [b] at ki
      simp (disch := omega) only [Tr_readDies_j35, pl_0, pl_1, pl_2, pl_3, pl_4, pl_5, pl_6, pl_7, pl_8, pl_9, pl_10, pl_11, pl_12, pl_13, pl_14, pl_15, pl_16, pl_17, pl_18, pl_19, pl_20, pl_21, pl_30, pl_40, pl_50, pl_51, pl_60, pl_70, pl_71, pl_99, pl_100, pl_160, pl_240, pl_256, pl_300, pl_999, pl_1000, pl_1280, pl_9999, pl_10000, pu_neg, pu_nn, pu_le, pu_lt, pu_eq, pu_cl, pu_in, pu_g, ↓pu_let, ↓pu_bind, pu_m1, pu_add, pu_mul, Nat.not_lt_zero, if_false, if_true, Nat.zero_le, pu_d2, pu_d100, pu_em1, ↓reduceIte, Nat.reduceEqDiff, Nat.reduceLT, Nat.reduceLeDiff, Nat.reduceAdd, Nat.reduceMul, Nat.reduceSub, not_true_eq_false, not_false_eq_true, and_true, true_and, and_false, false_and, or_true, true_or, or_false, false_or, Nat.lt_irrefl, Nat.le_refl, Nat.add_zero, Bool.false_eq_true, ↓pu_gI, nd_le, nd_leT, nd_lt, nd_ltT, nd_eq, nd_eqT, ki, kf, t.1.2.2.1]
    | false =>
      rw [b] at ki
      simp (disch := omega) only [Tr_readDies_j35, pl_0, pl_1, pl_2, pl_3, pl_4, pl_5, pl_6, pl_7, pl_8, pl_9, pl_10, pl_11, pl_12, pl_13, pl_14, pl_15, pl_16, pl_17, pl_18, pl_19, pl_20, pl_21, pl_30, pl_40, pl_50, pl_51, pl_60, pl_70, pl_71, pl_99, pl_100, pl_160, pl_240, pl_256, pl_300, pl_999, pl_1000, pl_1280, pl_9999, pl_10000, pu_neg, pu_nn, pu_le, pu_lt, pu_eq, pu_cl, pu_in, pu_g, ↓pu_let, ↓pu_bind, pu_m1, pu_add, pu_mul, Nat.not_lt_zero, if_false, if_true, Nat.zero_le, pu_d2, pu_d100, pu_em1, ↓reduceIte, Nat.reduceEqDiff, Nat.reduceLT, Nat.reduceLeDiff, Nat.reduceAdd, Nat.reduceMul, Nat.reduceSub, not_true_eq_false, not_false_eq_true, and_true, true_and, and_false, false_and, or_true, true_or, or_false, false_or, Nat.lt_irrefl, Nat.le_refl, Nat.add_zero, Bool.false_eq_true, ↓pu_gI, nd_le, nd_leT, nd_lt, nd_ltT, nd_eq, nd_eqT, ki, kf, t.1.2.2.1]
  | inr vq =>
    obtain ⟨v, q⟩ := vq
    obtain ⟨τ, e1, t, tn⟩ := R.2 v q e
    have r := rd_r hp e
    have hv : v < T 0 6 := of_decide_eq_true r.2.2.1
    have ki := is_isAt_v t.2.2.1 hI (q := 3) hv (by omega)
    have e2 := rd_and_r eo e
    by_cases y : T 6 v = 3
    · rw [decide_eq_false (fun w => w y), if_neg (by decide)] at e2
      rw [if_pos y] at ki
      have kf := tr_fail_n (nI (p + 1)) t
      have t2 := t.ft (nI (p + 1))
      refine RI.l (ns_l e2) (bind_of e1 ?_) t2
      simp (disch := omega) only [Tr_readDies_j35, pl_0, pl_1, pl_2, pl_3, pl_4, pl_5, pl_6, pl_7, pl_8, pl_9, pl_10, pl_11, pl_12, pl_13, pl_14, pl_15, pl_16, pl_17, pl_18, pl_19, pl_20, pl_21, pl_30, pl_40, pl_50, pl_51, pl_60, pl_70, pl_71, pl_99, pl_100, pl_160, pl_240, pl_256, pl_300, pl_999, pl_1000, pl_1280, pl_9999, pl_10000, pu_neg, pu_nn, pu_le, pu_lt, pu_eq, pu_cl, pu_in, pu_g, ↓pu_let, ↓pu_bind, pu_m1, pu_add, pu_mul, Nat.not_lt_zero, if_false, if_true, Nat.zero_le, pu_d2, pu_d100, pu_em1, ↓reduceIte, Nat.reduceEqDiff, Nat.reduceLT, Nat.reduceLeDiff, Nat.reduceAdd, Nat.reduceMul, Nat.reduceSub, not_true_eq_false, not_false_eq_true, and_true, true_and, and_false, false_and, or_true, true_or, or_false, false_or, Nat.lt_irrefl, Nat.le_refl, Nat.add_zero, Bool.false_eq_true, ↓pu_gI, nd_le, nd_leT, nd_lt, nd_ltT, nd_eq, nd_eqT, ki, kf, tn, t2.1.2.2.1]
    · rw [decide_eq_true y, if_pos rfl] at e2
      rw [if_neg y] at ki
      have km := up_moveTo t.2.2.1 hI hv (nI 3)
      refine RI.r (ns_1 rfl e2) (bind_of e1 ?_) (t.isl ((IslU.rf t.2.2.1).up 3 (r := 6) (by omega) (by omega) (by omega)))
      simp (disch := omega) only [Tr_readDies_j35, pl_0, pl_1, pl_2, pl_3, pl_4, pl_5, pl_6, pl_7, pl_8, pl_9, pl_10, pl_11, pl_12, pl_13, pl_14, pl_15, pl_16, pl_17, pl_18, pl_19, pl_20, pl_21, pl_30, pl_40, pl_50, pl_51, pl_60, pl_70, pl_71, pl_99, pl_100, pl_160, pl_240, pl_256, pl_300, pl_999, pl_1000, pl_1280, pl_9999, pl_10000, pu_neg, pu_nn, pu_le, pu_lt, pu_eq, pu_cl, pu_in, pu_g, ↓pu_let, ↓pu_bind, pu_m1, pu_add, pu_mul, Nat.not_lt_zero, if_false, if_true, Nat.zero_le, pu_d2, pu_d100, pu_em1, ↓reduceIte, Nat.reduceEqDiff, Nat.reduceLT, Nat.reduceLeDiff, Nat.reduceAdd, Nat.reduceMul, Nat.reduceSub, not_true_eq_false, not_false_eq_true, and_true, true_and, and_false, false_and, or_true, true_or, or_false, false_or, Nat.lt_irrefl, Nat.le_refl, Nat.add_zero, Bool.false_eq_true, ↓pu_gI, nd_le, nd_leT, nd_lt, nd_ltT, nd_eq, nd_eqT, ki, km, t.1.2.2.1]
end RDF
