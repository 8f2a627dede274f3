/-! moves -/
def bodL : List Nat := [10, 11, 12, 20, 0, 0, 0, 30, 0, 0, 40, 0, 51, 0, 50, 0, 0, 60, 70, 71, 0]
def bod (f v : Nat) : Nat := bodL.getD (f * 3 + v) 0
theorem bo_at : ∀ i, i < 21 → (nm_tab 4).getD i (nI 0) = nI (bodL.getD i 0) := by decide +kernel
def ownN (f v : Nat) : Nat := if bod f v ≠ 0 then f else if bod (abN f) v ≠ 0 then abN f else abN (abN f)
theorem own_ok : ∀ f, f < 7 → ∀ v, v < 3 → bod (ownN f v) v ≠ 0 ∧ ownN f v < 7 ∧ (bod f v = 0 → f ≠ 0) ∧ (bod f v = 0 → bod (abN f) v = 0 → abN f ≠ 0) := by decide
theorem bod_le : ∀ f, f < 7 → ∀ v, v < 3 → bod f v ≤ 71 := by decide
theorem bind_eta {x : Option (Int32 × nm_St)} : (x.bind fun q => some (q.1, q.2)) = x := by cases x <;> rfl
/-- what the Mover's cells say: kind, number, a, bodies so far -/
def TS (σ : nm_St) (k m A : Nat) (l : List Nat) (a : nm_St) : Prop := a.1 51 1 = nI l.length ∧ a.1 51 2 = nI m ∧ a.1 51 3 = nI k ∧ a.1 51 4 = nI A ∧ (∀ i, i < l.length → a.1 52 i = nI (l.getD i 0)) ∧ Fr [0, 4] σ a
def TM (σ : nm_St) (T : is_T) (l : List Nat) (a : nm_St) : Prop := a.1 70 35 = nI l.length ∧ (∀ i, i < l.length → a.1 92 i = nI (l.getD i 0)) ∧ MdR a T ∧ Fr [14] σ a
theorem getD_app1 {l : List Nat} {b i : Nat} (h : i < l.length) : (l ++ [b]).getD i 0 = l.getD i 0 := by
  rw [List.getD_eq_getElem?_getD, List.getD_eq_getElem?_getD, List.getElem?_append_left h]
theorem getD_app2 {l : List Nat} {b : Nat} : (l ++ [b]).getD l.length 0 = b := by
  rw [List.getD_eq_getElem?_getD, List.getElem?_append_right (Nat.le_refl _), Nat.sub_self]
  rfl
section ACT
variable {σ a : nm_St} {T : is_T} {k m A : Nat} {l : List Nat}
theorem TS.push (h : TS σ k m A l a) (b : Nat) : TS σ k m A (l ++ [b]) (nm_pI (nm_pI a 52 l.length (nI b)) 51 1 (nI (l.length + 1))) := by
  obtain ⟨h1, h2, h3, h4, h5, h6⟩ := h
  refine ⟨?_, ?_, ?_, ?_, fun i hi => ?_, (h6.pI _ rfl).pI _ rfl⟩
  · rw [pI_eq, List.length_append]; rfl
  · rw [pI_ne _ _ (by omega), pI_ne _ _ (by omega)]; exact h2
  · rw [pI_ne _ _ (by omega), pI_ne _ _ (by omega)]; exact h3
  · rw [pI_ne _ _ (by omega), pI_ne _ _ (by omega)]; exact h4
  · rw [List.length_append] at hi
    have hi2 : i < l.length + 1 := hi
    rw [pI_ne _ _ (by omega)]
    by_cases e : i = l.length
    · rw [e, pI_eq, getD_app2]
    · rw [pI_ne _ _ (by omega), getD_app1 (by omega)]
      exact h5 i (by omega)
theorem TM.push (h : TM σ T l a) (b : Nat) : TM σ T (l ++ [b]) (nm_pI (nm_pI a 92 l.length (nI b)) 70 35 (nI (l.length + 1))) := by
  obtain ⟨h1, h2, h3, h4⟩ := h
  refine ⟨?_, fun i hi => ?_, h3.fr (((Fr.rf [14] a).pI (a := 92) (b := l.length) (nI b) rfl).pI (a := 70) (b := 35) (nI (l.length + 1)) rfl) rfl, (h4.pI _ rfl).pI _ rfl⟩
  · rw [pI_eq, List.length_append]; rfl
  · rw [List.length_append] at hi
    have hi2 : i < l.length + 1 := hi
    rw [pI_ne _ _ (by omega)]
    by_cases e : i = l.length
    · rw [e, pI_eq, getD_app2]
    · rw [pI_ne _ _ (by omega), getD_app1 (by omega)]
      exact h2 i (by omega)
theorem mo_bodyOf {f v : Nat} (hf : f < 7) (hv : v < 3) : Mo_bodyOf (nI f) (nI v) σ = some (nI (bod f v), σ) := by
  unfold Mo_bodyOf
  rw [show Int32.ofNat (nm_tabN 4) = nI 21 from rfl]
  simp (disch := omega) only [pl_0, pl_1, pl_2, pl_3, pl_4, pl_5, pl_6, pl_7, pl_8, pl_9, pl_10, pl_11, pl_12, pl_13, pl_14, pl_15, pl_16, pl_17, pl_18, pl_19, pl_20, pl_21, pl_30, pl_40, pl_50, pl_51, pl_60, pl_70, pl_71, pl_99, pl_100, pl_160, pl_240, pl_256, pl_300, pl_999, pl_1000, pl_1280, pl_9999, pl_10000, pu_neg, pu_nn, pu_le, pu_lt, pu_eq, pu_cl, pu_in, pu_g, ↓pu_let, ↓pu_bind, pu_m1, pu_add, pu_mul, Nat.not_lt_zero, if_false, if_true, Nat.zero_le, pu_d2, pu_d100, pu_em1, ↓reduceIte, Nat.reduceEqDiff, Nat.reduceLT, Nat.reduceLeDiff, Nat.reduceAdd, Nat.reduceMul, Nat.reduceSub, not_true_eq_false, not_false_eq_true, and_true, true_and, and_false, false_and, or_true, true_or, or_false, false_or, Nat.lt_irrefl, Nat.le_refl, Nat.add_zero, Bool.false_eq_true, ↓pu_gI, nd_le, nd_leT, nd_lt, nd_ltT, nd_eq, nd_eqT, show nm_tabN 4 = 21 from rfl, bo_at _ (show f * 3 + v < 21 by omega)]
  rfl
theorem mo_own (rec : Int32 → Int32 → Int32 → Int32 → nm_St → Option (Int32 × nm_St)) (K : Int32 → Int32 → Int32 → Int32 → nm_St → Option (Int32 × nm_St)) {f v : Nat} (hf : f < 7) (hv : v < 3) (x d : Int32) : Mo_run_l15 rec K 400 (nI v) x d (nI f) (nI 0) σ = K (nI v) x d (nI (ownN f v)) σ := by
  obtain ⟨o1, o2, o3, o4⟩ := own_ok f hf v hv
  have bl : ∀ g, g < 7 → bod g v < 2147483648 := fun g hg => Nat.lt_of_le_of_lt (bod_le g hg v hv) (by omega)
  have st : ∀ (n g i : Nat), g < 7 → i < 7 → Mo_run_l15 rec K (n + 1) (nI v) x d (nI g) (nI i) σ = if bod g v = 0 then Mo_run_l15 rec K n (nI v) x d (if g = 0 then -nI 1 else nI (abN g)) (nI (i + 1)) σ else K (nI v) x d (nI g) σ := by
    intro n g i hg hi
    have b1 := bl g hg
    simp (disch := omega) only [Mo_run_l15, pl_0, pl_1, pl_2, pl_3, pl_4, pl_5, pl_6, pl_7, pl_8, pl_9, pl_10, pl_11, pl_12, pl_13, pl_14, pl_15, pl_16, pl_17, pl_18, pl_19, pl_20, pl_21, pl_30, pl_40, pl_50, pl_51, pl_60, pl_70, pl_71, pl_99, pl_100, pl_160, pl_240, pl_256, pl_300, pl_999, pl_1000, pl_1280, pl_9999, pl_10000, pu_neg, pu_nn, pu_le, pu_lt, pu_eq, pu_cl, pu_in, pu_g, ↓pu_let, ↓pu_bind, pu_m1, pu_add, pu_mul, Nat.not_lt_zero, if_false, if_true, Nat.zero_le, pu_d2, pu_d100, pu_em1, ↓reduceIte, Nat.reduceEqDiff, Nat.reduceLT, Nat.reduceLeDiff, Nat.reduceAdd, Nat.reduceMul, Nat.reduceSub, not_true_eq_false, not_false_eq_true, and_true, true_and, and_false, false_and, or_true, true_or, or_false, false_or, Nat.lt_irrefl, Nat.le_refl, Nat.add_zero, Bool.false_eq_true, ↓pu_gI, nd_le, nd_leT, nd_lt, nd_ltT, nd_eq, nd_eqT, mo_bodyOf hg hv, nm_kindAbove hg]
  unfold ownN at o1 ⊢
  rw [show (400 : Nat) = 397 + 1 + 1 + 1 from rfl, st _ _ _ hf (by omega)]
  by_cases a1 : bod f v = 0
  · rw [if_pos a1, if_neg (o3 a1), st _ _ _ (ab_lt f hf) (by omega), if_neg (show ¬ bod f v ≠ 0 by omega)]
    rw [if_neg (show ¬ bod f v ≠ 0 by omega)] at o1
    by_cases a2 : bod (abN f) v = 0
    · rw [if_pos a2, if_neg (o4 a1 a2), st _ _ _ (ab_lt _ (ab_lt f hf)) (by omega), if_neg (show ¬ bod (abN f) v ≠ 0 by omega)]
      rw [if_neg (show ¬ bod (abN f) v ≠ 0 by omega)] at o1
      rw [if_neg o1]
    · rw [if_neg a2, if_pos a2]
  · rw [if_neg a1, if_pos a1]
theorem mo_step (h : TS σ k m A l a) (hl : l.length < 20) {f v d n : Nat} (hf : f < 7) (hv : v < 3) (hd : d < 30) (x : Int32) : Mo_run (n + 1) (nI f) (nI v) x (nI d) a = Mo_answerOf (Mo_run n) (nI (bod (ownN f v) v)) (if ownN f v = 0 then -nI 1 else nI (abN (ownN f v))) x (nI (d + 1)) (nm_pI (nm_pI a 52 l.length (nI (bod (ownN f v) v))) 51 1 (nI (l.length + 1))) := by
  obtain ⟨o1, o2, o3, o4⟩ := own_ok f hf v hv
  show Mo_runB (Mo_run n) _ _ _ _ a = _
  unfold Mo_runB
  simp (disch := omega) only [pl_0, pl_1, pl_2, pl_3, pl_4, pl_5, pl_6, pl_7, pl_8, pl_9, pl_10, pl_11, pl_12, pl_13, pl_14, pl_15, pl_16, pl_17, pl_18, pl_19, pl_20, pl_21, pl_30, pl_40, pl_50, pl_51, pl_60, pl_70, pl_71, pl_99, pl_100, pl_160, pl_240, pl_256, pl_300, pl_999, pl_1000, pl_1280, pl_9999, pl_10000, pu_neg, pu_nn, pu_le, pu_lt, pu_eq, pu_cl, pu_in, pu_g, ↓pu_let, ↓pu_bind, pu_m1, pu_add, pu_mul, Nat.not_lt_zero, if_false, if_true, Nat.zero_le, pu_d2, pu_d100, pu_em1, ↓reduceIte, Nat.reduceEqDiff, Nat.reduceLT, Nat.reduceLeDiff, Nat.reduceAdd, Nat.reduceMul, Nat.reduceSub, not_true_eq_false, not_false_eq_true, and_true, true_and, and_false, false_and, or_true, true_or, or_false, false_or, Nat.lt_irrefl, Nat.le_refl, Nat.add_zero, Bool.false_eq_true, ↓pu_gI, nd_le, nd_leT, nd_lt, nd_ltT, nd_eq, nd_eqT, mo_own _ _ hf hv]
  unfold Mo_run_j50 Mo_run_j85
  simp (disch := omega) only [pl_0, pl_1, pl_2, pl_3, pl_4, pl_5, pl_6, pl_7, pl_8, pl_9, pl_10, pl_11, pl_12, pl_13, pl_14, pl_15, pl_16, pl_17, pl_18, pl_19, pl_20, pl_21, pl_30, pl_40, pl_50, pl_51, pl_60, pl_70, pl_71, pl_99, pl_100, pl_160, pl_240, pl_256, pl_300, pl_999, pl_1000, pl_1280, pl_9999, pl_10000, pu_neg, pu_nn, pu_le, pu_lt, pu_eq, pu_cl, pu_in, pu_g, ↓pu_let, ↓pu_bind, pu_m1, pu_add, pu_mul, Nat.not_lt_zero, if_false, if_true, Nat.zero_le, pu_d2, pu_d100, pu_em1, ↓reduceIte, Nat.reduceEqDiff, Nat.reduceLT, Nat.reduceLeDiff, Nat.reduceAdd, Nat.reduceMul, Nat.reduceSub, not_true_eq_false, not_false_eq_true, and_true, true_and, and_false, false_and, or_true, true_or, or_false, false_or, Nat.lt_irrefl, Nat.le_refl, Nat.add_zero, Bool.false_eq_true, ↓pu_gI, nd_le, nd_leT, nd_lt, nd_ltT, nd_eq, nd_eqT, mo_bodyOf o2 hv, h.1, pI_ne, nm_kindAbove o2, bind_eta]
/-- blows, sells, hides: values and bodies -/
def blV (k m A : Nat) (x : Int32) : Int32 := if k = 1 ∨ k = 3 then x + nI m + nI A else if k = 4 then x + nI m - nI m else if k = 6 then (x + nI m - nI m) * nI 2 else x + nI m
def blB (k : Nat) : List Nat := if k = 1 ∨ k = 3 then [20, 10] else if k = 4 then [51, 10] else if k = 6 then [70, 51, 10] else [10]
def slV (k m A : Nat) (x : Int32) : Int32 := if k = 2 ∨ k = 5 then blV k m A x * nI 2 * nI 3 else if k = 3 then blV k m A (x + nI 1) * nI 2 else if k = 6 then blV k m A (x - nI A) * nI 2 else blV k m A x * nI 2
def slB (k : Nat) : List Nat := if k = 2 ∨ k = 5 then [30, 11] ++ blB k else if k = 3 then [40, 11] ++ blB k else if k = 6 then [71, 11] ++ blB k else [11] ++ blB k
def hiV (k m A : Nat) (x : Int32) : Int32 := if k = 4 ∨ k = 6 then -(slV k m A x ^^^ blV k m A (x - nI A)) else if k = 5 then slV k m A x ^^^ blV k m A (x - nI A) ^^^ nI 5 else slV k m A x ^^^ blV k m A (x - nI A)
def hiB (k : Nat) : List Nat := if k = 4 ∨ k = 6 then [50, 12] ++ (slB k ++ blB k) else if k = 5 then [60, 12] ++ (slB k ++ blB k) else [12] ++ (slB k ++ blB k)
theorem len1 (l : List Nat) (b : Nat) : (l ++ [b]).length = l.length + 1 := by rw [List.length_append]; rfl
theorem mo_blow : ∀ (f : Nat), f < 7 → ∀ (n d : Nat) (x : Int32) (l : List Nat) (a : nm_St), TS σ k m A l a → l.length + 3 ≤ 20 → d < 20 → ∃ a', Mo_run (n + 3) (nI f) (nI 0) x (nI d) a = some (blV f m A x, a') ∧ TS σ k m A (l ++ blB f) a' := by
  have s10 : ∀ (f : Nat), f < 7 → ownN f 0 = 0 → ∀ (n d : Nat) (x : Int32) (l : List Nat) (a : nm_St), TS σ k m A l a → l.length < 20 → d < 30 → ∃ a', Mo_run (n + 1) (nI f) (nI 0) x (nI d) a = some (x + nI m, a') ∧ TS σ k m A (l ++ [10]) a' := by
    intro f hf ho n d x l a h hl hd
    refine ⟨_, ?_, h.push 10⟩
    rw [mo_step h hl hf (by omega) hd, ho, show bod 0 0 = 10 from rfl]
    have := (h.push 10).2.1
    simp (disch := omega) only [Mo_answerOf, pl_0, pl_1, pl_2, pl_3, pl_4, pl_5, pl_6, pl_7, pl_8, pl_9, pl_10, pl_11, pl_12, pl_13, pl_14, pl_15, pl_16, pl_17, pl_18, pl_19, pl_20, pl_21, pl_30, pl_40, pl_50, pl_51, pl_60, pl_70, pl_71, pl_99, pl_100, pl_160, pl_240, pl_256, pl_300, pl_999, pl_1000, pl_1280, pl_9999, pl_10000, pu_neg, pu_nn, pu_le, pu_lt, pu_eq, pu_cl, pu_in, pu_g, ↓pu_let, ↓pu_bind, pu_m1, pu_add, pu_mul, Nat.not_lt_zero, if_false, if_true, Nat.zero_le, pu_d2, pu_d100, pu_em1, ↓reduceIte, Nat.reduceEqDiff, Nat.reduceLT, Nat.reduceLeDiff, Nat.reduceAdd, Nat.reduceMul, Nat.reduceSub, not_true_eq_false, not_false_eq_true, and_true, true_and, and_false, false_and, or_true, true_or, or_false, false_or, Nat.lt_irrefl, Nat.le_refl, Nat.add_zero, Bool.false_eq_true, ↓pu_gI, nd_le, nd_leT, nd_lt, nd_ltT, nd_eq, nd_eqT, this]
  have s51 : ∀ (n d : Nat) (x : Int32) (l : List Nat) (a : nm_St), TS σ k m A l a → l.length + 1 < 20 → d < 29 → ∃ a', Mo_run (n + 2) (nI 4) (nI 0) x (nI d) a = some (x + nI m - nI m, a') ∧ TS σ k m A (l ++ [51, 10]) a' := by
    intro n d x l a h hl hd
    obtain ⟨a', e, t⟩ := s10 0 (by omega) rfl n (d + 1) x _ _ (h.push 51) (by rw [len1]; omega) (by omega)
    rw [List.append_assoc] at t
    refine ⟨a', ?_, t⟩
    rw [mo_step h (by omega) (by omega) (by omega) (by omega), show ownN 4 0 = 4 from rfl, show bod 4 0 = 51 from rfl, show abN 4 = 0 from rfl]
    simp (disch := omega) only [Mo_answerOf, pl_0, pl_1, pl_2, pl_3, pl_4, pl_5, pl_6, pl_7, pl_8, pl_9, pl_10, pl_11, pl_12, pl_13, pl_14, pl_15, pl_16, pl_17, pl_18, pl_19, pl_20, pl_21, pl_30, pl_40, pl_50, pl_51, pl_60, pl_70, pl_71, pl_99, pl_100, pl_160, pl_240, pl_256, pl_300, pl_999, pl_1000, pl_1280, pl_9999, pl_10000, pu_neg, pu_nn, pu_le, pu_lt, pu_eq, pu_cl, pu_in, pu_g, ↓pu_let, ↓pu_bind, pu_m1, pu_add, pu_mul, Nat.not_lt_zero, if_false, if_true, Nat.zero_le, pu_d2, pu_d100, pu_em1, ↓reduceIte, Nat.reduceEqDiff, Nat.reduceLT, Nat.reduceLeDiff, Nat.reduceAdd, Nat.reduceMul, Nat.reduceSub, not_true_eq_false, not_false_eq_true, and_true, true_and, and_false, false_and, or_true, true_or, or_false, false_or, Nat.lt_irrefl, Nat.le_refl, Nat.add_zero, Bool.false_eq_true, ↓pu_gI, nd_le, nd_leT, nd_lt, nd_ltT, nd_eq, nd_eqT, e, t.2.1]
  intro f hf n d x l a h hl hd
  have hf7 : f = 0 ∨ f = 1 ∨ f = 2 ∨ f = 3 ∨ f = 4 ∨ f = 5 ∨ f = 6 := by omega
  rcases hf7 with rfl | rfl | rfl | rfl | rfl | rfl | rfl
  · exact s10 0 (by omega) rfl (n + 2) d x l a h (by omega) (by omega)
  · obtain ⟨a', e, t⟩ := s10 0 (by omega) rfl (n + 1) (d + 1) x _ _ (h.push 20) (by rw [len1]; omega) (by omega)
    rw [List.append_assoc] at t
    refine ⟨a', ?_, t⟩
    rw [mo_step h (by omega) (by omega) (by omega) (by omega), show ownN 1 0 = 1 from rfl, show bod 1 0 = 20 from rfl, show abN 1 = 0 from rfl]
    simp (disch := omega) only [Mo_answerOf, pl_0, pl_1, pl_2, pl_3, pl_4, pl_5, pl_6, pl_7, pl_8, pl_9, pl_10, pl_11, pl_12, pl_13, pl_14, pl_15, pl_16, pl_17, pl_18, pl_19, pl_20, pl_21, pl_30, pl_40, pl_50, pl_51, pl_60, pl_70, pl_71, pl_99, pl_100, pl_160, pl_240, pl_256, pl_300, pl_999, pl_1000, pl_1280, pl_9999, pl_10000, pu_neg, pu_nn, pu_le, pu_lt, pu_eq, pu_cl, pu_in, pu_g, ↓pu_let, ↓pu_bind, pu_m1, pu_add, pu_mul, Nat.not_lt_zero, if_false, if_true, Nat.zero_le, pu_d2, pu_d100, pu_em1, ↓reduceIte, Nat.reduceEqDiff, Nat.reduceLT, Nat.reduceLeDiff, Nat.reduceAdd, Nat.reduceMul, Nat.reduceSub, not_true_eq_false, not_false_eq_true, and_true, true_and, and_false, false_and, or_true, true_or, or_false, false_or, Nat.lt_irrefl, Nat.le_refl, Nat.add_zero, Bool.false_eq_true, ↓pu_gI, nd_le, nd_leT, nd_lt, nd_ltT, nd_eq, nd_eqT, e, t.2.2.2.1, blV]
  · exact s10 2 (by omega) rfl (n + 2) d x l a h (by omega) (by omega)
  · obtain ⟨a', e, t⟩ := s10 0 (by omega) rfl (n + 1) (d + 1) x _ _ (h.push 20) (by rw [len1]; omega) (by omega)
    rw [List.append_assoc] at t
    refine ⟨a', ?_, t⟩
    rw [mo_step h (by omega) (by omega) (by omega) (by omega), show ownN 3 0 = 1 from rfl, show bod 1 0 = 20 from rfl, show abN 1 = 0 from rfl]
    simp (disch := omega) only [Mo_answerOf, pl_0, pl_1, pl_2, pl_3, pl_4, pl_5, pl_6, pl_7, pl_8, pl_9, pl_10, pl_11, pl_12, pl_13, pl_14, pl_15, pl_16, pl_17, pl_18, pl_19, pl_20, pl_21, pl_30, pl_40, pl_50, pl_51, pl_60, pl_70, pl_71, pl_99, pl_100, pl_160, pl_240, pl_256, pl_300, pl_999, pl_1000, pl_1280, pl_9999, pl_10000, pu_neg, pu_nn, pu_le, pu_lt, pu_eq, pu_cl, pu_in, pu_g, ↓pu_let, ↓pu_bind, pu_m1, pu_add, pu_mul, Nat.not_lt_zero, if_false, if_true, Nat.zero_le, pu_d2, pu_d100, pu_em1, ↓reduceIte, Nat.reduceEqDiff, Nat.reduceLT, Nat.reduceLeDiff, Nat.reduceAdd, Nat.reduceMul, Nat.reduceSub, not_true_eq_false, not_false_eq_true, and_true, true_and, and_false, false_and, or_true, true_or, or_false, false_or, Nat.lt_irrefl, Nat.le_refl, Nat.add_zero, Bool.false_eq_true, ↓pu_gI, nd_le, nd_leT, nd_lt, nd_ltT, nd_eq, nd_eqT, e, t.2.2.2.1, blV]
  · exact s51 (n + 1) d x l a h (by omega) (by omega)
  · exact s10 5 (by omega) rfl (n + 2) d x l a h (by omega) (by omega)
  · obtain ⟨a', e, t⟩ := s51 n (d + 1) x _ _ (h.push 70) (by rw [len1]; omega) (by omega)
    rw [List.append_assoc] at t
    refine ⟨a', ?_, t⟩
    rw [mo_step h (by omega) (by omega) (by omega) (by omega), show ownN 6 0 = 6 from rfl, show bod 6 0 = 70 from rfl, show abN 6 = 4 from rfl]
    simp (disch := omega) only [Mo_answerOf, pl_0, pl_1, pl_2, pl_3, pl_4, pl_5, pl_6, pl_7, pl_8, pl_9, pl_10, pl_11, pl_12, pl_13, pl_14, pl_15, pl_16, pl_17, pl_18, pl_19, pl_20, pl_21, pl_30, pl_40, pl_50, pl_51, pl_60, pl_70, pl_71, pl_99, pl_100, pl_160, pl_240, pl_256, pl_300, pl_999, pl_1000, pl_1280, pl_9999, pl_10000, pu_neg, pu_nn, pu_le, pu_lt, pu_eq, pu_cl, pu_in, pu_g, ↓pu_let, ↓pu_bind, pu_m1, pu_add, pu_mul, Nat.not_lt_zero, if_false, if_true, Nat.zero_le, pu_d2, pu_d100, pu_em1, ↓reduceIte, Nat.reduceEqDiff, Nat.reduceLT, Nat.reduceLeDiff, Nat.reduceAdd, Nat.reduceMul, Nat.reduceSub, not_true_eq_false, not_false_eq_true, and_true, true_and, and_false, false_and, or_true, true_or, or_false, false_or, Nat.lt_irrefl, Nat.le_refl, Nat.add_zero, Bool.false_eq_true, ↓pu_gI, nd_le, nd_leT, nd_lt, nd_ltT, nd_eq, nd_eqT, e, blV]
theorem blB_len (k : Nat) : (blB k).length ≤ 3 := by
  unfold blB
  repeat' split
  all_goals decide
/-- a sell by a kind; s0: the one of all makers, who blows by his own -/
theorem mo_sell0 (hk : k < 7) : ∀ (f : Nat), f < 7 → ownN f 1 = 0 → ∀ (n d : Nat) (x : Int32) (l : List Nat) (a : nm_St), TS σ k m A l a → l.length + 4 ≤ 20 → d < 19 → ∃ a', Mo_run (n + 4) (nI f) (nI 1) x (nI d) a = some (blV k m A x * nI 2, a') ∧ TS σ k m A (l ++ ([11] ++ blB k)) a' := by
  intro f hf ho n d x l a h hl hd
  obtain ⟨a', e, t⟩ := mo_blow (σ := σ) (k := k) (m := m) (A := A) k hk n (d + 1) x _ _ (h.push 11) (by rw [len1]; omega) (by omega)
  rw [List.append_assoc] at t
  refine ⟨a', ?_, t⟩
  rw [mo_step h (by omega) hf (by omega) (by omega), ho, show bod 0 1 = 11 from rfl]
  have h3 := (h.push 11).2.2.1
  simp (disch := omega) only [Mo_answerOf, pl_0, pl_1, pl_2, pl_3, pl_4, pl_5, pl_6, pl_7, pl_8, pl_9, pl_10, pl_11, pl_12, pl_13, pl_14, pl_15, pl_16, pl_17, pl_18, pl_19, pl_20, pl_21, pl_30, pl_40, pl_50, pl_51, pl_60, pl_70, pl_71, pl_99, pl_100, pl_160, pl_240, pl_256, pl_300, pl_999, pl_1000, pl_1280, pl_9999, pl_10000, pu_neg, pu_nn, pu_le, pu_lt, pu_eq, pu_cl, pu_in, pu_g, ↓pu_let, ↓pu_bind, pu_m1, pu_add, pu_mul, Nat.not_lt_zero, if_false, if_true, Nat.zero_le, pu_d2, pu_d100, pu_em1, ↓reduceIte, Nat.reduceEqDiff, Nat.reduceLT, Nat.reduceLeDiff, Nat.reduceAdd, Nat.reduceMul, Nat.reduceSub, not_true_eq_false, not_false_eq_true, and_true, true_and, and_false, false_and, or_true, true_or, or_false, false_or, Nat.lt_irrefl, Nat.le_refl, Nat.add_zero, Bool.false_eq_true, ↓pu_gI, nd_le, nd_leT, nd_lt, nd_ltT, nd_eq, nd_eqT, h3, e]
theorem mo_sell (hk : k < 7) (n d : Nat) (x : Int32) (l : List Nat) (a : nm_St) (h : TS σ k m A l a) (hl : l.length + 5 ≤ 20) (hd : d < 18) : ∃ a', Mo_run (n + 5) (nI k) (nI 1) x (nI d) a = some (slV k m A x, a') ∧ TS σ k m A (l ++ slB k) a' := by
  have hk7 : k = 0 ∨ k = 1 ∨ k = 2 ∨ k = 3 ∨ k = 4 ∨ k = 5 ∨ k = 6 := by omega
  have up : ∀ (b : Nat) (f' : Nat) (x' : Int32), f' < 7 → ownN f' 1 = 0 → ∃ a', Mo_run (n + 4) (nI f') (nI 1) x' (nI (d + 1)) (nm_pI (nm_pI a 52 l.length (nI b)) 51 1 (nI (l.length + 1))) = some (blV k m A x' * nI 2, a') ∧ TS σ k m A (l ++ ([b, 11] ++ blB k)) a' := fun b f' x' hf' ho => by
    obtain ⟨a', e, t⟩ := mo_sell0 (σ := σ) (m := m) (A := A) hk f' hf' ho n (d + 1) x' _ _ (h.push b) (by rw [len1]; omega) (by omega)
    rw [List.append_assoc] at t
    exact ⟨a', e, t⟩
  rcases hk7 with rfl | rfl | rfl | rfl | rfl | rfl | rfl
  · exact mo_sell0 hk 0 (by omega) rfl (n + 1) d x l a h (by omega) (by omega)
  · exact mo_sell0 hk 1 (by omega) rfl (n + 1) d x l a h (by omega) (by omega)
  · obtain ⟨a', e, t⟩ := up 30 0 x (by omega) rfl
    refine ⟨a', ?_, t⟩
    rw [mo_step h (by omega) (by omega) (by omega) (by omega), show ownN 2 1 = 2 from rfl, show bod 2 1 = 30 from rfl, show abN 2 = 0 from rfl]
    simp (disch := omega) only [Mo_answerOf, pl_0, pl_1, pl_2, pl_3, pl_4, pl_5, pl_6, pl_7, pl_8, pl_9, pl_10, pl_11, pl_12, pl_13, pl_14, pl_15, pl_16, pl_17, pl_18, pl_19, pl_20, pl_21, pl_30, pl_40, pl_50, pl_51, pl_60, pl_70, pl_71, pl_99, pl_100, pl_160, pl_240, pl_256, pl_300, pl_999, pl_1000, pl_1280, pl_9999, pl_10000, pu_neg, pu_nn, pu_le, pu_lt, pu_eq, pu_cl, pu_in, pu_g, ↓pu_let, ↓pu_bind, pu_m1, pu_add, pu_mul, Nat.not_lt_zero, if_false, if_true, Nat.zero_le, pu_d2, pu_d100, pu_em1, ↓reduceIte, Nat.reduceEqDiff, Nat.reduceLT, Nat.reduceLeDiff, Nat.reduceAdd, Nat.reduceMul, Nat.reduceSub, not_true_eq_false, not_false_eq_true, and_true, true_and, and_false, false_and, or_true, true_or, or_false, false_or, Nat.lt_irrefl, Nat.le_refl, Nat.add_zero, Bool.false_eq_true, ↓pu_gI, nd_le, nd_leT, nd_lt, nd_ltT, nd_eq, nd_eqT, e, slV]
  · obtain ⟨a', e, t⟩ := up 40 1 (x + nI 1) (by omega) rfl
    refine ⟨a', ?_, t⟩
    rw [mo_step h (by omega) (by omega) (by omega) (by omega), show ownN 3 1 = 3 from rfl, show bod 3 1 = 40 from rfl, show abN 3 = 1 from rfl]
    simp (disch := omega) only [Mo_answerOf, pl_0, pl_1, pl_2, pl_3, pl_4, pl_5, pl_6, pl_7, pl_8, pl_9, pl_10, pl_11, pl_12, pl_13, pl_14, pl_15, pl_16, pl_17, pl_18, pl_19, pl_20, pl_21, pl_30, pl_40, pl_50, pl_51, pl_60, pl_70, pl_71, pl_99, pl_100, pl_160, pl_240, pl_256, pl_300, pl_999, pl_1000, pl_1280, pl_9999, pl_10000, pu_neg, pu_nn, pu_le, pu_lt, pu_eq, pu_cl, pu_in, pu_g, ↓pu_let, ↓pu_bind, pu_m1, pu_add, pu_mul, Nat.not_lt_zero, if_false, if_true, Nat.zero_le, pu_d2, pu_d100, pu_em1, ↓reduceIte, Nat.reduceEqDiff, Nat.reduceLT, Nat.reduceLeDiff, Nat.reduceAdd, Nat.reduceMul, Nat.reduceSub, not_true_eq_false, not_false_eq_true, and_true, true_and, and_false, false_and, or_true, true_or, or_false, false_or, Nat.lt_irrefl, Nat.le_refl, Nat.add_zero, Bool.false_eq_true, ↓pu_gI, nd_le, nd_leT, nd_lt, nd_ltT, nd_eq, nd_eqT, e, slV]
  · exact mo_sell0 hk 4 (by omega) rfl (n + 1) d x l a h (by omega) (by omega)
  · obtain ⟨a', e, t⟩ := up 30 0 x (by omega) rfl
    refine ⟨a', ?_, t⟩
    rw [mo_step h (by omega) (by omega) (by omega) (by omega), show ownN 5 1 = 2 from rfl, show bod 2 1 = 30 from rfl, show abN 2 = 0 from rfl]
    simp (disch := omega) only [Mo_answerOf, pl_0, pl_1, pl_2, pl_3, pl_4, pl_5, pl_6, pl_7, pl_8, pl_9, pl_10, pl_11, pl_12, pl_13, pl_14, pl_15, pl_16, pl_17, pl_18, pl_19, pl_20, pl_21, pl_30, pl_40, pl_50, pl_51, pl_60, pl_70, pl_71, pl_99, pl_100, pl_160, pl_240, pl_256, pl_300, pl_999, pl_1000, pl_1280, pl_9999, pl_10000, pu_neg, pu_nn, pu_le, pu_lt, pu_eq, pu_cl, pu_in, pu_g, ↓pu_let, ↓pu_bind, pu_m1, pu_add, pu_mul, Nat.not_lt_zero, if_false, if_true, Nat.zero_le, pu_d2, pu_d100, pu_em1, ↓reduceIte, Nat.reduceEqDiff, Nat.reduceLT, Nat.reduceLeDiff, Nat.reduceAdd, Nat.reduceMul, Nat.reduceSub, not_true_eq_false, not_false_eq_true, and_true, true_and, and_false, false_and, or_true, true_or, or_false, false_or, Nat.lt_irrefl, Nat.le_refl, Nat.add_zero, Bool.false_eq_true, ↓pu_gI, nd_le, nd_leT, nd_lt, nd_ltT, nd_eq, nd_eqT, e, slV]
  · obtain ⟨a', e, t⟩ := up 71 4 (x - nI A) (by omega) rfl
    refine ⟨a', ?_, t⟩
    have h4 := (h.push 71).2.2.2.1
    rw [mo_step h (by omega) (by omega) (by omega) (by omega), show ownN 6 1 = 6 from rfl, show bod 6 1 = 71 from rfl, show abN 6 = 4 from rfl]
    simp (disch := omega) only [Mo_answerOf, pl_0, pl_1, pl_2, pl_3, pl_4, pl_5, pl_6, pl_7, pl_8, pl_9, pl_10, pl_11, pl_12, pl_13, pl_14, pl_15, pl_16, pl_17, pl_18, pl_19, pl_20, pl_21, pl_30, pl_40, pl_50, pl_51, pl_60, pl_70, pl_71, pl_99, pl_100, pl_160, pl_240, pl_256, pl_300, pl_999, pl_1000, pl_1280, pl_9999, pl_10000, pu_neg, pu_nn, pu_le, pu_lt, pu_eq, pu_cl, pu_in, pu_g, ↓pu_let, ↓pu_bind, pu_m1, pu_add, pu_mul, Nat.not_lt_zero, if_false, if_true, Nat.zero_le, pu_d2, pu_d100, pu_em1, ↓reduceIte, Nat.reduceEqDiff, Nat.reduceLT, Nat.reduceLeDiff, Nat.reduceAdd, Nat.reduceMul, Nat.reduceSub, not_true_eq_false, not_false_eq_true, and_true, true_and, and_false, false_and, or_true, true_or, or_false, false_or, Nat.lt_irrefl, Nat.le_refl, Nat.add_zero, Bool.false_eq_true, ↓pu_gI, nd_le, nd_leT, nd_lt, nd_ltT, nd_eq, nd_eqT, h4, e, slV]
theorem slB_len (k : Nat) : (slB k).length ≤ 5 := by
  have := blB_len k
  unfold slB
  repeat' split
  all_goals simp only [List.length_append, List.length_cons, List.length_nil]; omega
theorem mo_hide0 (hk : k < 7) : ∀ (f : Nat), f < 7 → ownN f 2 = 0 → ∀ (n d : Nat) (x : Int32) (l : List Nat) (a : nm_St), TS σ k m A l a → l.length + 9 ≤ 20 → d < 17 → ∃ a', Mo_run (n + 6) (nI f) (nI 2) x (nI d) a = some (slV k m A x ^^^ blV k m A (x - nI A), a') ∧ TS σ k m A (l ++ ([12] ++ (slB k ++ blB k))) a' := by
  intro f hf ho n d x l a h hl hd
  have hs := slB_len k
  obtain ⟨a1, e1, t1⟩ := mo_sell (σ := σ) (m := m) (A := A) hk n (d + 1) x _ _ (h.push 12) (by rw [len1]; omega) (by omega)
  obtain ⟨a2, e2, t2⟩ := mo_blow (σ := σ) (k := k) (m := m) (A := A) k hk (n + 2) (d + 1) (x - nI A) _ _ t1 (by rw [List.length_append, len1]; omega) (by omega)
  rw [List.append_assoc, List.append_assoc] at t2
  refine ⟨a2, ?_, t2⟩
  rw [mo_step h (by omega) hf (by omega) (by omega), ho, show bod 0 2 = 12 from rfl]
  have h3 := (h.push 12).2.2.1
  simp (disch := omega) only [Mo_answerOf, pl_0, pl_1, pl_2, pl_3, pl_4, pl_5, pl_6, pl_7, pl_8, pl_9, pl_10, pl_11, pl_12, pl_13, pl_14, pl_15, pl_16, pl_17, pl_18, pl_19, pl_20, pl_21, pl_30, pl_40, pl_50, pl_51, pl_60, pl_70, pl_71, pl_99, pl_100, pl_160, pl_240, pl_256, pl_300, pl_999, pl_1000, pl_1280, pl_9999, pl_10000, pu_neg, pu_nn, pu_le, pu_lt, pu_eq, pu_cl, pu_in, pu_g, ↓pu_let, ↓pu_bind, pu_m1, pu_add, pu_mul, Nat.not_lt_zero, if_false, if_true, Nat.zero_le, pu_d2, pu_d100, pu_em1, ↓reduceIte, Nat.reduceEqDiff, Nat.reduceLT, Nat.reduceLeDiff, Nat.reduceAdd, Nat.reduceMul, Nat.reduceSub, not_true_eq_false, not_false_eq_true, and_true, true_and, and_false, false_and, or_true, true_or, or_false, false_or, Nat.lt_irrefl, Nat.le_refl, Nat.add_zero, Bool.false_eq_true, ↓pu_gI, nd_le, nd_leT, nd_lt, nd_ltT, nd_eq, nd_eqT, h3, e1, t1.2.2.1, t1.2.2.2.1, e2]
theorem mo_hide (hk : k < 7) (n d : Nat) (x : Int32) (l : List Nat) (a : nm_St) (h : TS σ k m A l a) (hl : l.length + 10 ≤ 20) (hd : d < 16) : ∃ a', Mo_run (n + 7) (nI k) (nI 2) x (nI d) a = some (hiV k m A x, a') ∧ TS σ k m A (l ++ hiB k) a' := by
  have hk7 : k = 0 ∨ k = 1 ∨ k = 2 ∨ k = 3 ∨ k = 4 ∨ k = 5 ∨ k = 6 := by omega
  have up : ∀ (b : Nat) (f' : Nat), f' < 7 → ownN f' 2 = 0 → ∃ a', Mo_run (n + 6) (nI f') (nI 2) x (nI (d + 1)) (nm_pI (nm_pI a 52 l.length (nI b)) 51 1 (nI (l.length + 1))) = some (slV k m A x ^^^ blV k m A (x - nI A), a') ∧ TS σ k m A (l ++ ([b, 12] ++ (slB k ++ blB k))) a' := fun b f' hf' ho => by
    obtain ⟨a', e, t⟩ := mo_hide0 (σ := σ) (m := m) (A := A) hk f' hf' ho n (d + 1) x _ _ (h.push b) (by rw [len1]; omega) (by omega)
    rw [List.append_assoc] at t
    exact ⟨a', e, t⟩
  rcases hk7 with rfl | rfl | rfl | rfl | rfl | rfl | rfl
  · exact mo_hide0 hk 0 (by omega) rfl (n + 1) d x l a h (by omega) (by omega)
  · exact mo_hide0 hk 1 (by omega) rfl (n + 1) d x l a h (by omega) (by omega)
  · exact mo_hide0 hk 2 (by omega) rfl (n + 1) d x l a h (by omega) (by omega)
  · exact mo_hide0 hk 3 (by omega) rfl (n + 1) d x l a h (by omega) (by omega)
  · obtain ⟨a', e, t⟩ := up 50 0 (by omega) rfl
    refine ⟨a', ?_, t⟩
    rw [mo_step h (by omega) (by omega) (by omega) (by omega), show ownN 4 2 = 4 from rfl, show bod 4 2 = 50 from rfl, show abN 4 = 0 from rfl]
    simp (disch := omega) only [Mo_answerOf, pl_0, pl_1, pl_2, pl_3, pl_4, pl_5, pl_6, pl_7, pl_8, pl_9, pl_10, pl_11, pl_12, pl_13, pl_14, pl_15, pl_16, pl_17, pl_18, pl_19, pl_20, pl_21, pl_30, pl_40, pl_50, pl_51, pl_60, pl_70, pl_71, pl_99, pl_100, pl_160, pl_240, pl_256, pl_300, pl_999, pl_1000, pl_1280, pl_9999, pl_10000, pu_neg, pu_nn, pu_le, pu_lt, pu_eq, pu_cl, pu_in, pu_g, ↓pu_let, ↓pu_bind, pu_m1, pu_add, pu_mul, Nat.not_lt_zero, if_false, if_true, Nat.zero_le, pu_d2, pu_d100, pu_em1, ↓reduceIte, Nat.reduceEqDiff, Nat.reduceLT, Nat.reduceLeDiff, Nat.reduceAdd, Nat.reduceMul, Nat.reduceSub, not_true_eq_false, not_false_eq_true, and_true, true_and, and_false, false_and, or_true, true_or, or_false, false_or, Nat.lt_irrefl, Nat.le_refl, Nat.add_zero, Bool.false_eq_true, ↓pu_gI, nd_le, nd_leT, nd_lt, nd_ltT, nd_eq, nd_eqT, e, hiV]
  · obtain ⟨a', e, t⟩ := up 60 2 (by omega) rfl
    refine ⟨a', ?_, t⟩
    rw [mo_step h (by omega) (by omega) (by omega) (by omega), show ownN 5 2 = 5 from rfl, show bod 5 2 = 60 from rfl, show abN 5 = 2 from rfl]
    simp (disch := omega) only [Mo_answerOf, pl_0, pl_1, pl_2, pl_3, pl_4, pl_5, pl_6, pl_7, pl_8, pl_9, pl_10, pl_11, pl_12, pl_13, pl_14, pl_15, pl_16, pl_17, pl_18, pl_19, pl_20, pl_21, pl_30, pl_40, pl_50, pl_51, pl_60, pl_70, pl_71, pl_99, pl_100, pl_160, pl_240, pl_256, pl_300, pl_999, pl_1000, pl_1280, pl_9999, pl_10000, pu_neg, pu_nn, pu_le, pu_lt, pu_eq, pu_cl, pu_in, pu_g, ↓pu_let, ↓pu_bind, pu_m1, pu_add, pu_mul, Nat.not_lt_zero, if_false, if_true, Nat.zero_le, pu_d2, pu_d100, pu_em1, ↓reduceIte, Nat.reduceEqDiff, Nat.reduceLT, Nat.reduceLeDiff, Nat.reduceAdd, Nat.reduceMul, Nat.reduceSub, not_true_eq_false, not_false_eq_true, and_true, true_and, and_false, false_and, or_true, true_or, or_false, false_or, Nat.lt_irrefl, Nat.le_refl, Nat.add_zero, Bool.false_eq_true, ↓pu_gI, nd_le, nd_leT, nd_lt, nd_ltT, nd_eq, nd_eqT, e, hiV]
  · obtain ⟨a', e, t⟩ := up 50 0 (by omega) rfl
    refine ⟨a', ?_, t⟩
    rw [mo_step h (by omega) (by omega) (by omega) (by omega), show ownN 6 2 = 4 from rfl, show bod 4 2 = 50 from rfl, show abN 4 = 0 from rfl]
    simp (disch := omega) only [Mo_answerOf, pl_0, pl_1, pl_2, pl_3, pl_4, pl_5, pl_6, pl_7, pl_8, pl_9, pl_10, pl_11, pl_12, pl_13, pl_14, pl_15, pl_16, pl_17, pl_18, pl_19, pl_20, pl_21, pl_30, pl_40, pl_50, pl_51, pl_60, pl_70, pl_71, pl_99, pl_100, pl_160, pl_240, pl_256, pl_300, pl_999, pl_1000, pl_1280, pl_9999, pl_10000, pu_neg, pu_nn, pu_le, pu_lt, pu_eq, pu_cl, pu_in, pu_g, ↓pu_let, ↓pu_bind, pu_m1, pu_add, pu_mul, Nat.not_lt_zero, if_false, if_true, Nat.zero_le, pu_d2, pu_d100, pu_em1, ↓reduceIte, Nat.reduceEqDiff, Nat.reduceLT, Nat.reduceLeDiff, Nat.reduceAdd, Nat.reduceMul, Nat.reduceSub, not_true_eq_false, not_false_eq_true, and_true, true_and, and_false, false_and, or_true, true_or, or_false, false_or, Nat.lt_irrefl, Nat.le_refl, Nat.add_zero, Bool.false_eq_true, ↓pu_gI, nd_le, nd_leT, nd_lt, nd_ltT, nd_eq, nd_eqT, e, hiV]
end ACT
