/-! set, copy, image, restore -/
theorem pu_gI {β : Type} {m N : Nat} (h : m < N) (hN : N < 2147483648) (a : Option β) : nm_g (nm_in (nI m) N) a = a := by rw [pu_in h hN, pu_g]
/-- steps over a call whose answer is 0, or 1 -/
theorem bn0 {γ : Type} {x : Option (Int32 × nm_St)} {s : nm_St} (e : x = some (nI 0, s)) {A B : Int32 × nm_St → Option γ} : (x.bind fun q => if q.1 = 0 then A q else B q) = A (nI 0, s) := by
  rw [e]
  show (if nI 0 = 0 then A (nI 0, s) else B (nI 0, s)) = A (nI 0, s)
  exact if_pos nI_0
theorem bn1 {γ : Type} {x : Option (Int32 × nm_St)} {s : nm_St} (e : x = some (nI 1, s)) {A B : Int32 × nm_St → Option γ} : (x.bind fun q => if q.1 = 0 then A q else B q) = B (nI 1, s) := by
  rw [e]
  show (if nI 1 = 0 then A (nI 1, s) else B (nI 1, s)) = B (nI 1, s)
  exact if_neg (show ¬ nI 1 = 0 by decide)
theorem bnr {γ : Type} {x : Option (Int32 × nm_St)} {s : nm_St} {n : Nat} (e : x = some (-nI n, s)) (h1 : 1 ≤ n) (h2 : n < 2147483648) {A B : Int32 × nm_St → Option γ} : (x.bind fun q => if q.1 = 0 then A q else B q) = B (-nI n, s) := by
  rw [e]
  show (if -nI n = 0 then A (-nI n, s) else B (-nI n, s)) = B (-nI n, s)
  exact if_neg (show ¬ -nI n = 0 by
    have := pu_ng n h1 h2
    rw [nI_0] at this
    rw [this]
    exact id)
theorem gin {β : Type} {m N : Nat} {a : Option β} (h : m < N) (hN : N < 2147483648) : nm_g (nm_in (nI m) N) a = a := pu_gI h hN a
theorem nm_isSh {σ : nm_St} {s : Nat} (hs : s < 8) : Nm_isShelf (nI s) σ = some (nI 1, σ) := by
  unfold Nm_isShelf
  rw [if_neg (nI_pos (by omega)), show (8 : Int32) = nI 8 from rfl, if_neg (nI_ge hs (by omega))]
  rfl
theorem md_isSh {σ : nm_St} {s : Nat} (hs : s < 8) : Md_isShelf (nI s) σ = some (nI 1, σ) := by
  unfold Md_isShelf
  rw [if_neg (nI_pos (by omega)), show (8 : Int32) = nI 8 from rfl, if_neg (nI_ge hs (by omega))]
  rfl
theorem nd_le {a b : Nat} (h : b < a) : (a ≤ b) = False := eq_false (by omega)
theorem nd_leT {a b : Nat} (h : a ≤ b) : (a ≤ b) = True := eq_true h
theorem nd_lt {a b : Nat} (h : b ≤ a) : (a < b) = False := eq_false (by omega)
theorem nd_ltT {a b : Nat} (h : a < b) : (a < b) = True := eq_true h
theorem nd_eq {a b : Nat} (h : a ≠ b) : (a = b) = False := eq_false h
theorem nd_eqT {a b : Nat} (h : a = b) : (a = b) = True := eq_true h
theorem is_id {p : Prop} (h : p) : p := h
theorem md_id {p : Prop} (h : p) : p := h
section CHK
variable {σ : nm_St} {T U : is_T} {E : Nat → Nat → Int64}
def ckN (U : is_T) (s : Nat) : Nat := if U 0 s = 2 then 2 else if U 0 s = 0 then 3 else 0
theorem nm_ck_lo {x : Int32} (hx : x < 0) : Nm_checkRow x σ = some (-nI 1, σ) := by
  simp (disch := omega) only [Nm_checkRow, Nm_isShelf, pl_0, pl_1, pl_2, pl_3, pl_4, pl_5, pl_6, pl_7, pl_8, pl_9, pl_10, pl_11, pl_12, pl_13, pl_14, pl_15, pl_16, pl_17, pl_18, pl_19, pl_20, pl_21, pl_30, pl_40, pl_50, pl_51, pl_60, pl_70, pl_71, pl_99, pl_100, pl_160, pl_240, pl_256, pl_300, pl_999, pl_1000, pl_1280, pl_9999, pl_10000, pu_neg, pu_nn, pu_le, pu_lt, pu_eq, pu_cl, pu_in, pu_g, ↓pu_let, ↓pu_bind, pu_m1, pu_add, pu_mul, Nat.not_lt_zero, if_false, if_true, Nat.zero_le, pu_d2, pu_d100, pu_em1, ↓reduceIte, Nat.reduceEqDiff, Nat.reduceLT, Nat.reduceLeDiff, Nat.reduceAdd, Nat.reduceMul, Nat.reduceSub, not_true_eq_false, not_false_eq_true, and_true, true_and, and_false, false_and, or_true, true_or, or_false, false_or, Nat.lt_irrefl, Nat.le_refl, Nat.add_zero, Bool.false_eq_true, ↓pu_gI, nd_le, nd_leT, nd_lt, nd_ltT, nd_eq, nd_eqT, ngl hx, nge hx, ngle hx, nggt hx, ngne hx]
theorem nm_ck_hi {x : Int32} (hx : nI 8 ≤ x) : Nm_checkRow x σ = some (-nI 1, σ) := by
  simp (disch := omega) only [Nm_checkRow, Nm_isShelf, pl_0, pl_1, pl_2, pl_3, pl_4, pl_5, pl_6, pl_7, pl_8, pl_9, pl_10, pl_11, pl_12, pl_13, pl_14, pl_15, pl_16, pl_17, pl_18, pl_19, pl_20, pl_21, pl_30, pl_40, pl_50, pl_51, pl_60, pl_70, pl_71, pl_99, pl_100, pl_160, pl_240, pl_256, pl_300, pl_999, pl_1000, pl_1280, pl_9999, pl_10000, pu_neg, pu_nn, pu_le, pu_lt, pu_eq, pu_cl, pu_in, pu_g, ↓pu_let, ↓pu_bind, pu_m1, pu_add, pu_mul, Nat.not_lt_zero, if_false, if_true, Nat.zero_le, pu_d2, pu_d100, pu_em1, ↓reduceIte, Nat.reduceEqDiff, Nat.reduceLT, Nat.reduceLeDiff, Nat.reduceAdd, Nat.reduceMul, Nat.reduceSub, not_true_eq_false, not_false_eq_true, and_true, true_and, and_false, false_and, or_true, true_or, or_false, false_or, Nat.lt_irrefl, Nat.le_refl, Nat.add_zero, Bool.false_eq_true, ↓pu_gI, nd_le, nd_leT, nd_lt, nd_ltT, nd_eq, nd_eqT, bgl hx, bge hx, bgle hx, bggt hx, bgne hx, bgm1 hx]
theorem md_ck_lo {x : Int32} (hx : x < 0) : Md_wanted x σ = some (-nI 1, σ) := by
  simp (disch := omega) only [Md_wanted, Md_isShelf, pl_0, pl_1, pl_2, pl_3, pl_4, pl_5, pl_6, pl_7, pl_8, pl_9, pl_10, pl_11, pl_12, pl_13, pl_14, pl_15, pl_16, pl_17, pl_18, pl_19, pl_20, pl_21, pl_30, pl_40, pl_50, pl_51, pl_60, pl_70, pl_71, pl_99, pl_100, pl_160, pl_240, pl_256, pl_300, pl_999, pl_1000, pl_1280, pl_9999, pl_10000, pu_neg, pu_nn, pu_le, pu_lt, pu_eq, pu_cl, pu_in, pu_g, ↓pu_let, ↓pu_bind, pu_m1, pu_add, pu_mul, Nat.not_lt_zero, if_false, if_true, Nat.zero_le, pu_d2, pu_d100, pu_em1, ↓reduceIte, Nat.reduceEqDiff, Nat.reduceLT, Nat.reduceLeDiff, Nat.reduceAdd, Nat.reduceMul, Nat.reduceSub, not_true_eq_false, not_false_eq_true, and_true, true_and, and_false, false_and, or_true, true_or, or_false, false_or, Nat.lt_irrefl, Nat.le_refl, Nat.add_zero, Bool.false_eq_true, ↓pu_gI, nd_le, nd_leT, nd_lt, nd_ltT, nd_eq, nd_eqT, ngl hx, nge hx, ngle hx, nggt hx, ngne hx]
theorem md_ck_hi {x : Int32} (hx : nI 8 ≤ x) : Md_wanted x σ = some (-nI 1, σ) := by
  simp (disch := omega) only [Md_wanted, Md_isShelf, pl_0, pl_1, pl_2, pl_3, pl_4, pl_5, pl_6, pl_7, pl_8, pl_9, pl_10, pl_11, pl_12, pl_13, pl_14, pl_15, pl_16, pl_17, pl_18, pl_19, pl_20, pl_21, pl_30, pl_40, pl_50, pl_51, pl_60, pl_70, pl_71, pl_99, pl_100, pl_160, pl_240, pl_256, pl_300, pl_999, pl_1000, pl_1280, pl_9999, pl_10000, pu_neg, pu_nn, pu_le, pu_lt, pu_eq, pu_cl, pu_in, pu_g, ↓pu_let, ↓pu_bind, pu_m1, pu_add, pu_mul, Nat.not_lt_zero, if_false, if_true, Nat.zero_le, pu_d2, pu_d100, pu_em1, ↓reduceIte, Nat.reduceEqDiff, Nat.reduceLT, Nat.reduceLeDiff, Nat.reduceAdd, Nat.reduceMul, Nat.reduceSub, not_true_eq_false, not_false_eq_true, and_true, true_and, and_false, false_and, or_true, true_or, or_false, false_or, Nat.lt_irrefl, Nat.le_refl, Nat.add_zero, Bool.false_eq_true, ↓pu_gI, nd_le, nd_leT, nd_lt, nd_ltT, nd_eq, nd_eqT, bgl hx, bge hx, bgle hx, bggt hx, bgne hx, bgm1 hx]
theorem nm_ck (h : CF σ T U E) (hP : PF T U) {s : Nat} (hs : s < 8) : Nm_checkRow (nI s) σ = some (if ckN U s = 0 then nI 0 else -nI (ckN U s), σ) := by
  unfold ckN
  rcases hP.h3 hs with ⟨e0, e2⟩ | ⟨e0, e2⟩ | ⟨e0, e2, e3⟩
  all_goals simp (disch := omega) only [Nm_checkRow, Nm_isShelf, Sh_isMaker, Sh_isEmpty, pl_0, pl_1, pl_2, pl_3, pl_4, pl_5, pl_6, pl_7, pl_8, pl_9, pl_10, pl_11, pl_12, pl_13, pl_14, pl_15, pl_16, pl_17, pl_18, pl_19, pl_20, pl_21, pl_30, pl_40, pl_50, pl_51, pl_60, pl_70, pl_71, pl_99, pl_100, pl_160, pl_240, pl_256, pl_300, pl_999, pl_1000, pl_1280, pl_9999, pl_10000, pu_neg, pu_nn, pu_le, pu_lt, pu_eq, pu_cl, pu_in, pu_g, ↓pu_let, ↓pu_bind, pu_m1, pu_add, pu_mul, Nat.not_lt_zero, if_false, if_true, Nat.zero_le, pu_d2, pu_d100, pu_em1, ↓reduceIte, Nat.reduceEqDiff, Nat.reduceLT, Nat.reduceLeDiff, Nat.reduceAdd, Nat.reduceMul, Nat.reduceSub, not_true_eq_false, not_false_eq_true, and_true, true_and, and_false, false_and, or_true, true_or, or_false, false_or, Nat.lt_irrefl, Nat.le_refl, Nat.add_zero, Bool.false_eq_true, ↓pu_gI, nd_le, nd_leT, nd_lt, nd_ltT, nd_eq, nd_eqT, sf_n, h.held hs, e0]
theorem md_ck (h : MF σ T U E) (hP : PF T U) {s : Nat} (hs : s < 8) : Md_wanted (nI s) σ = some (if ckN U s = 0 then nI 0 else -nI (ckN U s), σ) := by
  unfold ckN
  rcases hP.h3 hs with ⟨e0, e2⟩ | ⟨e0, e2⟩ | ⟨e0, e2, e3⟩
  all_goals simp (disch := omega) only [Md_wanted, Md_isShelf, pl_0, pl_1, pl_2, pl_3, pl_4, pl_5, pl_6, pl_7, pl_8, pl_9, pl_10, pl_11, pl_12, pl_13, pl_14, pl_15, pl_16, pl_17, pl_18, pl_19, pl_20, pl_21, pl_30, pl_40, pl_50, pl_51, pl_60, pl_70, pl_71, pl_99, pl_100, pl_160, pl_240, pl_256, pl_300, pl_999, pl_1000, pl_1280, pl_9999, pl_10000, pu_neg, pu_nn, pu_le, pu_lt, pu_eq, pu_cl, pu_in, pu_g, ↓pu_let, ↓pu_bind, pu_m1, pu_add, pu_mul, Nat.not_lt_zero, if_false, if_true, Nat.zero_le, pu_d2, pu_d100, pu_em1, ↓reduceIte, Nat.reduceEqDiff, Nat.reduceLT, Nat.reduceLeDiff, Nat.reduceAdd, Nat.reduceMul, Nat.reduceSub, not_true_eq_false, not_false_eq_true, and_true, true_and, and_false, false_and, or_true, true_or, or_false, false_or, Nat.lt_irrefl, Nat.le_refl, Nat.add_zero, Bool.false_eq_true, ↓pu_gI, nd_le, nd_leT, nd_lt, nd_ltT, nd_eq, nd_eqT, h.held hs, e0]
theorem ck_1 {s : Nat} (e0 : U 0 s = 1) : ckN U s = 0 := by unfold ckN; simp [e0]
def cvE (so : Nat) (v : Int64) : Int64 := if so = 0 then Int32.toInt64 (Int8.toInt32 (Int32.toInt8 (Int64.toInt32 v))) else if so = 1 then Int32.toInt64 (Int16.toInt32 (Int32.toInt16 (Int64.toInt32 v))) else if so = 2 then Int32.toInt64 (Int64.toInt32 v) else v
theorem sh_put (h : CF σ T U E) (hP : PF T U) {s i : Nat} (hs : s < 8) (hi : i < U 2 s) (v : Int64) : Sh_put (54 + 2 * s) (nI i) v σ = some ((), nm_pJ σ (54 + 2 * s + 1) i (cvE (U 1 s) v)) := by
  obtain ⟨h00, h11, h22⟩ := (hP.2 s hs).1
  have ho : U 1 s = 0 ∨ U 1 s = 1 ∨ U 1 s = 2 ∨ U 1 s = 3 := by omega
  unfold cvE
  rcases ho with e | e | e | e
  all_goals simp (disch := omega) only [Sh_put, Sh_has, pl_0, pl_1, pl_2, pl_3, pl_4, pl_5, pl_6, pl_7, pl_8, pl_9, pl_10, pl_11, pl_12, pl_13, pl_14, pl_15, pl_16, pl_17, pl_18, pl_19, pl_20, pl_21, pl_30, pl_40, pl_50, pl_51, pl_60, pl_70, pl_71, pl_99, pl_100, pl_160, pl_240, pl_256, pl_300, pl_999, pl_1000, pl_1280, pl_9999, pl_10000, pu_neg, pu_nn, pu_le, pu_lt, pu_eq, pu_cl, pu_in, pu_g, ↓pu_let, ↓pu_bind, pu_m1, pu_add, pu_mul, Nat.not_lt_zero, if_false, if_true, Nat.zero_le, pu_d2, pu_d100, pu_em1, ↓reduceIte, Nat.reduceEqDiff, Nat.reduceLT, Nat.reduceLeDiff, Nat.reduceAdd, Nat.reduceMul, Nat.reduceSub, not_true_eq_false, not_false_eq_true, and_true, true_and, and_false, false_and, or_true, true_or, or_false, false_or, Nat.lt_irrefl, Nat.le_refl, Nat.add_zero, Bool.false_eq_true, ↓pu_gI, nd_le, nd_leT, nd_lt, nd_ltT, nd_eq, nd_eqT, h.size hs, h.sort hs, e]
def setE (E : Nat → Nat → Int64) (s i : Nat) (x : Int64) : Nat → Nat → Int64 := fun s' i' => if s' = s ∧ i' = i then x else E s' i'
theorem op_set (h : RelT σ T U E) (p1 p2 : Int32) (v : Int64) : OkB σ (Nm_set p1 p2 v) (Md_set p1 p2 v) := by
  have hP := h.2.2.1
  rcases pu_ix p1 8 (by omega) with h1 | h1 | ⟨s, hs, rfl⟩
  · refine ok_q h ?_
    exact qno (b := -nI 1) 1 (by omega) (by omega) (fun σ h => by simp (disch := omega) only [Nm_set, Nm_set_j29, pl_0, pl_1, pl_2, pl_3, pl_4, pl_5, pl_6, pl_7, pl_8, pl_9, pl_10, pl_11, pl_12, pl_13, pl_14, pl_15, pl_16, pl_17, pl_18, pl_19, pl_20, pl_21, pl_30, pl_40, pl_50, pl_51, pl_60, pl_70, pl_71, pl_99, pl_100, pl_160, pl_240, pl_256, pl_300, pl_999, pl_1000, pl_1280, pl_9999, pl_10000, pu_neg, pu_nn, pu_le, pu_lt, pu_eq, pu_cl, pu_in, pu_g, ↓pu_let, ↓pu_bind, pu_m1, pu_add, pu_mul, Nat.not_lt_zero, if_false, if_true, Nat.zero_le, pu_d2, pu_d100, pu_em1, ↓reduceIte, Nat.reduceEqDiff, Nat.reduceLT, Nat.reduceLeDiff, Nat.reduceAdd, Nat.reduceMul, Nat.reduceSub, not_true_eq_false, not_false_eq_true, and_true, true_and, and_false, false_and, or_true, true_or, or_false, false_or, Nat.lt_irrefl, Nat.le_refl, Nat.add_zero, Bool.false_eq_true, ↓pu_gI, nd_le, nd_leT, nd_lt, nd_ltT, nd_eq, nd_eqT, nm_ck_lo h1, pu_ng, ngl h1, nge h1, ngle h1, nggt h1, ngne h1, nm_ref]) (fun σ h => by simp (disch := omega) only [Md_set, Md_isShelf, pl_0, pl_1, pl_2, pl_3, pl_4, pl_5, pl_6, pl_7, pl_8, pl_9, pl_10, pl_11, pl_12, pl_13, pl_14, pl_15, pl_16, pl_17, pl_18, pl_19, pl_20, pl_21, pl_30, pl_40, pl_50, pl_51, pl_60, pl_70, pl_71, pl_99, pl_100, pl_160, pl_240, pl_256, pl_300, pl_999, pl_1000, pl_1280, pl_9999, pl_10000, pu_neg, pu_nn, pu_le, pu_lt, pu_eq, pu_cl, pu_in, pu_g, ↓pu_let, ↓pu_bind, pu_m1, pu_add, pu_mul, Nat.not_lt_zero, if_false, if_true, Nat.zero_le, pu_d2, pu_d100, pu_em1, ↓reduceIte, Nat.reduceEqDiff, Nat.reduceLT, Nat.reduceLeDiff, Nat.reduceAdd, Nat.reduceMul, Nat.reduceSub, not_true_eq_false, not_false_eq_true, and_true, true_and, and_false, false_and, or_true, true_or, or_false, false_or, Nat.lt_irrefl, Nat.le_refl, Nat.add_zero, Bool.false_eq_true, ↓pu_gI, nd_le, nd_leT, nd_lt, nd_ltT, nd_eq, nd_eqT, pu_ng, ngl h1, nge h1, ngle h1, nggt h1, ngne h1, md_no])
  · refine ok_q h ?_
    exact qno (b := -nI 1) 1 (by omega) (by omega) (fun σ h => by simp (disch := omega) only [Nm_set, Nm_set_j29, pl_0, pl_1, pl_2, pl_3, pl_4, pl_5, pl_6, pl_7, pl_8, pl_9, pl_10, pl_11, pl_12, pl_13, pl_14, pl_15, pl_16, pl_17, pl_18, pl_19, pl_20, pl_21, pl_30, pl_40, pl_50, pl_51, pl_60, pl_70, pl_71, pl_99, pl_100, pl_160, pl_240, pl_256, pl_300, pl_999, pl_1000, pl_1280, pl_9999, pl_10000, pu_neg, pu_nn, pu_le, pu_lt, pu_eq, pu_cl, pu_in, pu_g, ↓pu_let, ↓pu_bind, pu_m1, pu_add, pu_mul, Nat.not_lt_zero, if_false, if_true, Nat.zero_le, pu_d2, pu_d100, pu_em1, ↓reduceIte, Nat.reduceEqDiff, Nat.reduceLT, Nat.reduceLeDiff, Nat.reduceAdd, Nat.reduceMul, Nat.reduceSub, not_true_eq_false, not_false_eq_true, and_true, true_and, and_false, false_and, or_true, true_or, or_false, false_or, Nat.lt_irrefl, Nat.le_refl, Nat.add_zero, Bool.false_eq_true, ↓pu_gI, nd_le, nd_leT, nd_lt, nd_ltT, nd_eq, nd_eqT, nm_ck_hi h1, pu_ng, bgl h1, bge h1, bgle h1, bggt h1, bgne h1, bgm1 h1, nm_ref]) (fun σ h => by simp (disch := omega) only [Md_set, Md_isShelf, pl_0, pl_1, pl_2, pl_3, pl_4, pl_5, pl_6, pl_7, pl_8, pl_9, pl_10, pl_11, pl_12, pl_13, pl_14, pl_15, pl_16, pl_17, pl_18, pl_19, pl_20, pl_21, pl_30, pl_40, pl_50, pl_51, pl_60, pl_70, pl_71, pl_99, pl_100, pl_160, pl_240, pl_256, pl_300, pl_999, pl_1000, pl_1280, pl_9999, pl_10000, pu_neg, pu_nn, pu_le, pu_lt, pu_eq, pu_cl, pu_in, pu_g, ↓pu_let, ↓pu_bind, pu_m1, pu_add, pu_mul, Nat.not_lt_zero, if_false, if_true, Nat.zero_le, pu_d2, pu_d100, pu_em1, ↓reduceIte, Nat.reduceEqDiff, Nat.reduceLT, Nat.reduceLeDiff, Nat.reduceAdd, Nat.reduceMul, Nat.reduceSub, not_true_eq_false, not_false_eq_true, and_true, true_and, and_false, false_and, or_true, true_or, or_false, false_or, Nat.lt_irrefl, Nat.le_refl, Nat.add_zero, Bool.false_eq_true, ↓pu_gI, nd_le, nd_leT, nd_lt, nd_ltT, nd_eq, nd_eqT, pu_ng, bgl h1, bge h1, bgle h1, bggt h1, bgne h1, bgm1 h1, md_no])
  rcases hP.h3 hs with ⟨e0, e2⟩ | ⟨e0, e2⟩ | ⟨e0, e2, e3⟩
  · refine ok_q h ?_
    exact qno (b := -nI 3) 3 (by omega) (by omega) (fun σ h => by simp (disch := omega) only [Nm_set, Nm_set_j29, pl_0, pl_1, pl_2, pl_3, pl_4, pl_5, pl_6, pl_7, pl_8, pl_9, pl_10, pl_11, pl_12, pl_13, pl_14, pl_15, pl_16, pl_17, pl_18, pl_19, pl_20, pl_21, pl_30, pl_40, pl_50, pl_51, pl_60, pl_70, pl_71, pl_99, pl_100, pl_160, pl_240, pl_256, pl_300, pl_999, pl_1000, pl_1280, pl_9999, pl_10000, pu_neg, pu_nn, pu_le, pu_lt, pu_eq, pu_cl, pu_in, pu_g, ↓pu_let, ↓pu_bind, pu_m1, pu_add, pu_mul, Nat.not_lt_zero, if_false, if_true, Nat.zero_le, pu_d2, pu_d100, pu_em1, ↓reduceIte, Nat.reduceEqDiff, Nat.reduceLT, Nat.reduceLeDiff, Nat.reduceAdd, Nat.reduceMul, Nat.reduceSub, not_true_eq_false, not_false_eq_true, and_true, true_and, and_false, false_and, or_true, true_or, or_false, false_or, Nat.lt_irrefl, Nat.le_refl, Nat.add_zero, Bool.false_eq_true, ↓pu_gI, nd_le, nd_leT, nd_lt, nd_ltT, nd_eq, nd_eqT, nm_ck h hP hs, pu_ng, ckN, h.held hs, e0, nm_ref]) (fun σ h => by simp (disch := omega) only [Md_set, Md_isShelf, pl_0, pl_1, pl_2, pl_3, pl_4, pl_5, pl_6, pl_7, pl_8, pl_9, pl_10, pl_11, pl_12, pl_13, pl_14, pl_15, pl_16, pl_17, pl_18, pl_19, pl_20, pl_21, pl_30, pl_40, pl_50, pl_51, pl_60, pl_70, pl_71, pl_99, pl_100, pl_160, pl_240, pl_256, pl_300, pl_999, pl_1000, pl_1280, pl_9999, pl_10000, pu_neg, pu_nn, pu_le, pu_lt, pu_eq, pu_cl, pu_in, pu_g, ↓pu_let, ↓pu_bind, pu_m1, pu_add, pu_mul, Nat.not_lt_zero, if_false, if_true, Nat.zero_le, pu_d2, pu_d100, pu_em1, ↓reduceIte, Nat.reduceEqDiff, Nat.reduceLT, Nat.reduceLeDiff, Nat.reduceAdd, Nat.reduceMul, Nat.reduceSub, not_true_eq_false, not_false_eq_true, and_true, true_and, and_false, false_and, or_true, true_or, or_false, false_or, Nat.lt_irrefl, Nat.le_refl, Nat.add_zero, Bool.false_eq_true, ↓pu_gI, nd_le, nd_leT, nd_lt, nd_ltT, nd_eq, nd_eqT, pu_ng, ckN, h.held hs, e0, md_no])
  · rcases pu_ix p2 (U 2 s) (by omega) with h2 | h2 | ⟨i, hi, rfl⟩
    · refine ok_q h ?_
      exact qno (b := -nI 5) 5 (by omega) (by omega) (fun σ h => by simp (disch := omega) only [Nm_set, Nm_set_j29, Sh_has, pl_0, pl_1, pl_2, pl_3, pl_4, pl_5, pl_6, pl_7, pl_8, pl_9, pl_10, pl_11, pl_12, pl_13, pl_14, pl_15, pl_16, pl_17, pl_18, pl_19, pl_20, pl_21, pl_30, pl_40, pl_50, pl_51, pl_60, pl_70, pl_71, pl_99, pl_100, pl_160, pl_240, pl_256, pl_300, pl_999, pl_1000, pl_1280, pl_9999, pl_10000, pu_neg, pu_nn, pu_le, pu_lt, pu_eq, pu_cl, pu_in, pu_g, ↓pu_let, ↓pu_bind, pu_m1, pu_add, pu_mul, Nat.not_lt_zero, if_false, if_true, Nat.zero_le, pu_d2, pu_d100, pu_em1, ↓reduceIte, Nat.reduceEqDiff, Nat.reduceLT, Nat.reduceLeDiff, Nat.reduceAdd, Nat.reduceMul, Nat.reduceSub, not_true_eq_false, not_false_eq_true, and_true, true_and, and_false, false_and, or_true, true_or, or_false, false_or, Nat.lt_irrefl, Nat.le_refl, Nat.add_zero, Bool.false_eq_true, ↓pu_gI, nd_le, nd_leT, nd_lt, nd_ltT, nd_eq, nd_eqT, nm_ck h hP hs, pu_ng, ckN, sf_n, h.held hs, e0, ngl h2, nge h2, ngle h2, nggt h2, ngne h2, nm_ref]) (fun σ h => by simp (disch := omega) only [Md_set, Md_isShelf, pl_0, pl_1, pl_2, pl_3, pl_4, pl_5, pl_6, pl_7, pl_8, pl_9, pl_10, pl_11, pl_12, pl_13, pl_14, pl_15, pl_16, pl_17, pl_18, pl_19, pl_20, pl_21, pl_30, pl_40, pl_50, pl_51, pl_60, pl_70, pl_71, pl_99, pl_100, pl_160, pl_240, pl_256, pl_300, pl_999, pl_1000, pl_1280, pl_9999, pl_10000, pu_neg, pu_nn, pu_le, pu_lt, pu_eq, pu_cl, pu_in, pu_g, ↓pu_let, ↓pu_bind, pu_m1, pu_add, pu_mul, Nat.not_lt_zero, if_false, if_true, Nat.zero_le, pu_d2, pu_d100, pu_em1, ↓reduceIte, Nat.reduceEqDiff, Nat.reduceLT, Nat.reduceLeDiff, Nat.reduceAdd, Nat.reduceMul, Nat.reduceSub, not_true_eq_false, not_false_eq_true, and_true, true_and, and_false, false_and, or_true, true_or, or_false, false_or, Nat.lt_irrefl, Nat.le_refl, Nat.add_zero, Bool.false_eq_true, ↓pu_gI, nd_le, nd_leT, nd_lt, nd_ltT, nd_eq, nd_eqT, pu_ng, ckN, sf_n, h.held hs, e0, ngl h2, nge h2, ngle h2, nggt h2, ngne h2, md_no])
    · refine ok_q h ?_
      exact qno (b := -nI 5) 5 (by omega) (by omega) (fun σ h => by simp (disch := omega) only [Nm_set, Nm_set_j29, Sh_has, pl_0, pl_1, pl_2, pl_3, pl_4, pl_5, pl_6, pl_7, pl_8, pl_9, pl_10, pl_11, pl_12, pl_13, pl_14, pl_15, pl_16, pl_17, pl_18, pl_19, pl_20, pl_21, pl_30, pl_40, pl_50, pl_51, pl_60, pl_70, pl_71, pl_99, pl_100, pl_160, pl_240, pl_256, pl_300, pl_999, pl_1000, pl_1280, pl_9999, pl_10000, pu_neg, pu_nn, pu_le, pu_lt, pu_eq, pu_cl, pu_in, pu_g, ↓pu_let, ↓pu_bind, pu_m1, pu_add, pu_mul, Nat.not_lt_zero, if_false, if_true, Nat.zero_le, pu_d2, pu_d100, pu_em1, ↓reduceIte, Nat.reduceEqDiff, Nat.reduceLT, Nat.reduceLeDiff, Nat.reduceAdd, Nat.reduceMul, Nat.reduceSub, not_true_eq_false, not_false_eq_true, and_true, true_and, and_false, false_and, or_true, true_or, or_false, false_or, Nat.lt_irrefl, Nat.le_refl, Nat.add_zero, Bool.false_eq_true, ↓pu_gI, nd_le, nd_leT, nd_lt, nd_ltT, nd_eq, nd_eqT, nm_ck h hP hs, pu_ng, ckN, sf_n, h.held hs, e0, is_id (h.size hs), bgl h2, bge h2, bgle h2, bggt h2, bgne h2, bgm1 h2, nm_ref]) (fun σ h => by simp (disch := omega) only [Md_set, Md_isShelf, pl_0, pl_1, pl_2, pl_3, pl_4, pl_5, pl_6, pl_7, pl_8, pl_9, pl_10, pl_11, pl_12, pl_13, pl_14, pl_15, pl_16, pl_17, pl_18, pl_19, pl_20, pl_21, pl_30, pl_40, pl_50, pl_51, pl_60, pl_70, pl_71, pl_99, pl_100, pl_160, pl_240, pl_256, pl_300, pl_999, pl_1000, pl_1280, pl_9999, pl_10000, pu_neg, pu_nn, pu_le, pu_lt, pu_eq, pu_cl, pu_in, pu_g, ↓pu_let, ↓pu_bind, pu_m1, pu_add, pu_mul, Nat.not_lt_zero, if_false, if_true, Nat.zero_le, pu_d2, pu_d100, pu_em1, ↓reduceIte, Nat.reduceEqDiff, Nat.reduceLT, Nat.reduceLeDiff, Nat.reduceAdd, Nat.reduceMul, Nat.reduceSub, not_true_eq_false, not_false_eq_true, and_true, true_and, and_false, false_and, or_true, true_or, or_false, false_or, Nat.lt_irrefl, Nat.le_refl, Nat.add_zero, Bool.false_eq_true, ↓pu_gI, nd_le, nd_leT, nd_lt, nd_ltT, nd_eq, nd_eqT, pu_ng, ckN, sf_n, h.held hs, e0, md_id (h.size hs e0), bgl h2, bge h2, bgle h2, bggt h2, bgne h2, bgm1 h2, md_no])
    obtain ⟨h00, h11, h22⟩ := (hP.2 s hs).1
    refine ok_s h (nI 1) U (setE E s i (cvE (U 1 s) v)) hP.2 ⟨nm_pJ σ (54 + 2 * s + 1) i (cvE (U 1 s) v), ?_, (Fr.rf [6] σ).pJ (a := 54 + 2 * s + 1) (b := i) _ (by rw [(rg_sh hs _).2]; rfl), h.1.2.1, fun s' i' hs' hi' => ?_⟩ (fun τ hτ => ⟨nm_pJ τ 82 (160 * s + i) (cvE (U 1 s) v), ?_, (Fr.rf [10, 16] τ).pJ _ rfl, hτ.2.1, fun s' i' hs' hi' => ?_⟩)
    · simp (disch := omega) only [Nm_set, Nm_set_j29, Sh_has, pl_0, pl_1, pl_2, pl_3, pl_4, pl_5, pl_6, pl_7, pl_8, pl_9, pl_10, pl_11, pl_12, pl_13, pl_14, pl_15, pl_16, pl_17, pl_18, pl_19, pl_20, pl_21, pl_30, pl_40, pl_50, pl_51, pl_60, pl_70, pl_71, pl_99, pl_100, pl_160, pl_240, pl_256, pl_300, pl_999, pl_1000, pl_1280, pl_9999, pl_10000, pu_neg, pu_nn, pu_le, pu_lt, pu_eq, pu_cl, pu_in, pu_g, ↓pu_let, ↓pu_bind, pu_m1, pu_add, pu_mul, Nat.not_lt_zero, if_false, if_true, Nat.zero_le, pu_d2, pu_d100, pu_em1, ↓reduceIte, Nat.reduceEqDiff, Nat.reduceLT, Nat.reduceLeDiff, Nat.reduceAdd, Nat.reduceMul, Nat.reduceSub, not_true_eq_false, not_false_eq_true, and_true, true_and, and_false, false_and, or_true, true_or, or_false, false_or, Nat.lt_irrefl, Nat.le_refl, Nat.add_zero, Bool.false_eq_true, ↓pu_gI, nd_le, nd_leT, nd_lt, nd_ltT, nd_eq, nd_eqT, nm_ck h.1 hP hs, ckN, e0, sf_n, h.1.size hs, sh_put h.1 hP hs hi]
    · unfold setE
      by_cases z : s' = s ∧ i' = i
      · obtain ⟨rfl, rfl⟩ := z
        rw [pJ_eq, if_pos ⟨rfl, rfl⟩]
      · rw [pJ_ne _ _ (by omega), if_neg z]
        exact h.1.el hs' hi'
    · have ho : U 1 s = 0 ∨ U 1 s = 1 ∨ U 1 s = 2 ∨ U 1 s = 3 := by omega
      unfold cvE
      rcases ho with e | e | e | e
      all_goals simp (disch := omega) only [Md_set, Md_isShelf, pl_0, pl_1, pl_2, pl_3, pl_4, pl_5, pl_6, pl_7, pl_8, pl_9, pl_10, pl_11, pl_12, pl_13, pl_14, pl_15, pl_16, pl_17, pl_18, pl_19, pl_20, pl_21, pl_30, pl_40, pl_50, pl_51, pl_60, pl_70, pl_71, pl_99, pl_100, pl_160, pl_240, pl_256, pl_300, pl_999, pl_1000, pl_1280, pl_9999, pl_10000, pu_neg, pu_nn, pu_le, pu_lt, pu_eq, pu_cl, pu_in, pu_g, ↓pu_let, ↓pu_bind, pu_m1, pu_add, pu_mul, Nat.not_lt_zero, if_false, if_true, Nat.zero_le, pu_d2, pu_d100, pu_em1, ↓reduceIte, Nat.reduceEqDiff, Nat.reduceLT, Nat.reduceLeDiff, Nat.reduceAdd, Nat.reduceMul, Nat.reduceSub, not_true_eq_false, not_false_eq_true, and_true, true_and, and_false, false_and, or_true, true_or, or_false, false_or, Nat.lt_irrefl, Nat.le_refl, Nat.add_zero, Bool.false_eq_true, ↓pu_gI, nd_le, nd_leT, nd_lt, nd_ltT, nd_eq, nd_eqT, hτ.held hs, hτ.size hs e0, hτ.sort hs, e0, e]
    · unfold setE
      have a1 := (hP.2 s' hs').1.2.2
      by_cases z : s' = s ∧ i' = i
      · obtain ⟨rfl, rfl⟩ := z
        rw [pJ_eq, if_pos ⟨rfl, rfl⟩]
      · rw [pJ_ne _ _ (by omega), if_neg z]
        exact hτ.el hs' hi'
  · refine ok_q h ?_
    exact qno (b := -nI 2) 2 (by omega) (by omega) (fun σ h => by simp (disch := omega) only [Nm_set, Nm_set_j29, pl_0, pl_1, pl_2, pl_3, pl_4, pl_5, pl_6, pl_7, pl_8, pl_9, pl_10, pl_11, pl_12, pl_13, pl_14, pl_15, pl_16, pl_17, pl_18, pl_19, pl_20, pl_21, pl_30, pl_40, pl_50, pl_51, pl_60, pl_70, pl_71, pl_99, pl_100, pl_160, pl_240, pl_256, pl_300, pl_999, pl_1000, pl_1280, pl_9999, pl_10000, pu_neg, pu_nn, pu_le, pu_lt, pu_eq, pu_cl, pu_in, pu_g, ↓pu_let, ↓pu_bind, pu_m1, pu_add, pu_mul, Nat.not_lt_zero, if_false, if_true, Nat.zero_le, pu_d2, pu_d100, pu_em1, ↓reduceIte, Nat.reduceEqDiff, Nat.reduceLT, Nat.reduceLeDiff, Nat.reduceAdd, Nat.reduceMul, Nat.reduceSub, not_true_eq_false, not_false_eq_true, and_true, true_and, and_false, false_and, or_true, true_or, or_false, false_or, Nat.lt_irrefl, Nat.le_refl, Nat.add_zero, Bool.false_eq_true, ↓pu_gI, nd_le, nd_leT, nd_lt, nd_ltT, nd_eq, nd_eqT, nm_ck h hP hs, pu_ng, ckN, h.held hs, e0, nm_ref]) (fun σ h => by simp (disch := omega) only [Md_set, Md_isShelf, pl_0, pl_1, pl_2, pl_3, pl_4, pl_5, pl_6, pl_7, pl_8, pl_9, pl_10, pl_11, pl_12, pl_13, pl_14, pl_15, pl_16, pl_17, pl_18, pl_19, pl_20, pl_21, pl_30, pl_40, pl_50, pl_51, pl_60, pl_70, pl_71, pl_99, pl_100, pl_160, pl_240, pl_256, pl_300, pl_999, pl_1000, pl_1280, pl_9999, pl_10000, pu_neg, pu_nn, pu_le, pu_lt, pu_eq, pu_cl, pu_in, pu_g, ↓pu_let, ↓pu_bind, pu_m1, pu_add, pu_mul, Nat.not_lt_zero, if_false, if_true, Nat.zero_le, pu_d2, pu_d100, pu_em1, ↓reduceIte, Nat.reduceEqDiff, Nat.reduceLT, Nat.reduceLeDiff, Nat.reduceAdd, Nat.reduceMul, Nat.reduceSub, not_true_eq_false, not_false_eq_true, and_true, true_and, and_false, false_and, or_true, true_or, or_false, false_or, Nat.lt_irrefl, Nat.le_refl, Nat.add_zero, Bool.false_eq_true, ↓pu_gI, nd_le, nd_leT, nd_lt, nd_ltT, nd_eq, nd_eqT, pu_ng, ckN, h.held hs, e0, md_no])
/-! copy -/
theorem sneg2 {a b : Nat} (hb : b < 2147483648) (h : a < b) : nI a - nI b < 0 := by
  have e : nI a - nI b = -nI (b - a) := by
    rw [show nI b = nI a + nI (b - a) by rw [nI_add]; congr 1; omega, Int32.sub_eq_add_neg, Int32.neg_add, Int32.sub_eq_add_neg, ← Int32.add_assoc, Int32.add_right_neg, Int32.zero_add]
  rw [e]
  refine Int32.lt_iff_toInt_lt.mpr ?_
  rw [sb_negT (by omega)]
  have h3 : (0 : Int32).toInt = 0 := by decide
  omega
theorem fit_lt {z n i : Nat} (hz : z ≤ 160) (hn : n < 2147483648) (hi : i < 2147483648) : (nI z - nI n < nI i) = ¬ (i + n ≤ z) := by
  apply propext
  by_cases e : n ≤ z
  · rw [pk_sub e, nI_ltI (by omega) (by omega)]
    omega
  · have h1 := ngl (sneg2 hn (show z < n by omega)) hi
    rw [h1]
    constructor
    · intro _; omega
    · intro _; trivial
theorem fit_le {z n i : Nat} (hz : z ≤ 160) (hn : n < 2147483648) (hi : i < 2147483648) : (nI i ≤ nI z - nI n) = (i + n ≤ z) := by
  apply propext
  by_cases e : n ≤ z
  · rw [pk_sub e, nI_leI (by omega) (by omega)]
    omega
  · have h1 := nge (sneg2 hn (show z < n by omega)) hi
    rw [h1]
    constructor
    · intro h; cases h
    · intro _; omega
theorem cg_n {i j n : Nat} (hi : i + n ≤ 160) (hj : j + n ≤ 160) : nm_cg (nI i) (nI j) (nI n) 160 160 = true := by
  unfold nm_cg
  rw [pu_cl (by omega), pu_cl (by omega), pu_cl (by omega), decide_eq_false (nI_pos (by omega)), decide_eq_false (nI_pos (by omega)), decide_eq_false (nI_pos (by omega)), decide_eq_true hi, decide_eq_true hj]
  rfl
def ck2 (U : is_T) (s t a : Nat) : Nat := if U 0 s = 2 ∨ U 0 t = 2 then 2 else if U 0 s = 0 ∨ U 0 t = 0 then 3 else if a = 1 ∧ U 1 s ≠ U 1 t then 2 else 0
theorem sh_mk (h : CF σ T U E) (hP : PF T U) {s : Nat} (hs : s < 8) : Sh_isMaker (nm_sf (nI s)) σ = some (nI (if U 0 s = 2 then 1 else 0), σ) := by
  have := (hP.2 s hs).1.1
  unfold Sh_isMaker
  simp (disch := omega) only [sf_n, pl_0, pl_1, pl_2, pl_3, pl_4, pl_5, pl_6, pl_7, pl_8, pl_9, pl_10, pl_11, pl_12, pl_13, pl_14, pl_15, pl_16, pl_17, pl_18, pl_19, pl_20, pl_21, pl_30, pl_40, pl_50, pl_51, pl_60, pl_70, pl_71, pl_99, pl_100, pl_160, pl_240, pl_256, pl_300, pl_999, pl_1000, pl_1280, pl_9999, pl_10000, pu_neg, pu_nn, pu_le, pu_lt, pu_eq, pu_cl, pu_in, pu_g, ↓pu_let, ↓pu_bind, pu_m1, pu_add, pu_mul, Nat.not_lt_zero, if_false, if_true, Nat.zero_le, pu_d2, pu_d100, pu_em1, ↓reduceIte, Nat.reduceEqDiff, Nat.reduceLT, Nat.reduceLeDiff, Nat.reduceAdd, Nat.reduceMul, Nat.reduceSub, not_true_eq_false, not_false_eq_true, and_true, true_and, and_false, false_and, or_true, true_or, or_false, false_or, Nat.lt_irrefl, Nat.le_refl, Nat.add_zero, Bool.false_eq_true, ↓pu_gI, nd_le, nd_leT, nd_lt, nd_ltT, nd_eq, nd_eqT, h.held hs]
  by_cases z : U 0 s = 2 <;> simp [z]
theorem sh_em (h : CF σ T U E) (hP : PF T U) {s : Nat} (hs : s < 8) : Sh_isEmpty (nm_sf (nI s)) σ = some (nI (if U 0 s = 0 then 1 else 0), σ) := by
  have := (hP.2 s hs).1.1
  unfold Sh_isEmpty
  simp (disch := omega) only [sf_n, pl_0, pl_1, pl_2, pl_3, pl_4, pl_5, pl_6, pl_7, pl_8, pl_9, pl_10, pl_11, pl_12, pl_13, pl_14, pl_15, pl_16, pl_17, pl_18, pl_19, pl_20, pl_21, pl_30, pl_40, pl_50, pl_51, pl_60, pl_70, pl_71, pl_99, pl_100, pl_160, pl_240, pl_256, pl_300, pl_999, pl_1000, pl_1280, pl_9999, pl_10000, pu_neg, pu_nn, pu_le, pu_lt, pu_eq, pu_cl, pu_in, pu_g, ↓pu_let, ↓pu_bind, pu_m1, pu_add, pu_mul, Nat.not_lt_zero, if_false, if_true, Nat.zero_le, pu_d2, pu_d100, pu_em1, ↓reduceIte, Nat.reduceEqDiff, Nat.reduceLT, Nat.reduceLeDiff, Nat.reduceAdd, Nat.reduceMul, Nat.reduceSub, not_true_eq_false, not_false_eq_true, and_true, true_and, and_false, false_and, or_true, true_or, or_false, false_or, Nat.lt_irrefl, Nat.le_refl, Nat.add_zero, Bool.false_eq_true, ↓pu_gI, nd_le, nd_leT, nd_lt, nd_ltT, nd_eq, nd_eqT, h.held hs]
  by_cases z : U 0 s = 0 <;> simp [z]
theorem nm_ck2 (h : CF σ T U E) (hP : PF T U) {s t a : Nat} (hs : s < 8) (ht : t < 8) (ha : a < 2) : Nm_checkTwoRows (nI s) (nI t) (nI a) σ = some (if ck2 U s t a = 0 then nI 0 else -nI (ck2 U s t a), σ) := by
  have o1 := (hP.2 s hs).1.2.1
  have o2 := (hP.2 t ht).1.2.1
  have m1 := sh_mk h hP hs
  have m2 := sh_mk h hP ht
  have w1 := sh_em h hP hs
  have w2 := sh_em h hP ht
  unfold Nm_checkTwoRows ck2
  refine (bn1 (nm_isSh hs)).trans ?_
  refine (bn1 (nm_isSh ht)).trans ?_
  refine (gin hs (by omega)).trans ?_
  by_cases a1 : U 0 s = 2
  · rw [if_pos a1] at m1
    refine (bn1 m1).trans ?_
    rw [if_pos (Or.inl a1)]; rfl
  rw [if_neg a1] at m1
  refine (bn0 m1).trans ?_
  refine (gin ht (by omega)).trans ?_
  by_cases a2 : U 0 t = 2
  · rw [if_pos a2] at m2
    refine (bn1 m2).trans ?_
    rw [if_pos (Or.inr a2)]; rfl
  rw [if_neg a2] at m2
  refine (bn0 m2).trans ?_
  refine (gin hs (by omega)).trans ?_
  rw [if_neg (show ¬ (U 0 s = 2 ∨ U 0 t = 2) by omega)]
  by_cases b1 : U 0 s = 0
  · rw [if_pos b1] at w1
    refine (bn1 w1).trans ?_
    rw [if_pos (Or.inl b1)]; rfl
  rw [if_neg b1] at w1
  refine (bn0 w1).trans ?_
  refine (gin ht (by omega)).trans ?_
  by_cases b2 : U 0 t = 0
  · rw [if_pos b2] at w2
    refine (bn1 w2).trans ?_
    rw [if_pos (Or.inr b2)]; rfl
  rw [if_neg b2] at w2
  refine (bn0 w2).trans ?_
  rw [if_neg (show ¬ (U 0 s = 0 ∨ U 0 t = 0) by omega)]
  have ha2 : a = 0 ∨ a = 1 := by omega
  rcases ha2 with rfl | rfl
  · rfl
  · simp (disch := omega) only [pl_0, pl_1, pl_2, pl_3, pl_4, pl_5, pl_6, pl_7, pl_8, pl_9, pl_10, pl_11, pl_12, pl_13, pl_14, pl_15, pl_16, pl_17, pl_18, pl_19, pl_20, pl_21, pl_30, pl_40, pl_50, pl_51, pl_60, pl_70, pl_71, pl_99, pl_100, pl_160, pl_240, pl_256, pl_300, pl_999, pl_1000, pl_1280, pl_9999, pl_10000, pu_neg, pu_nn, pu_le, pu_lt, pu_eq, pu_cl, pu_in, pu_g, ↓pu_let, ↓pu_bind, pu_m1, pu_add, pu_mul, Nat.not_lt_zero, if_false, if_true, Nat.zero_le, pu_d2, pu_d100, pu_em1, ↓reduceIte, Nat.reduceEqDiff, Nat.reduceLT, Nat.reduceLeDiff, Nat.reduceAdd, Nat.reduceMul, Nat.reduceSub, not_true_eq_false, not_false_eq_true, and_true, true_and, and_false, false_and, or_true, true_or, or_false, false_or, Nat.lt_irrefl, Nat.le_refl, Nat.add_zero, Bool.false_eq_true, ↓pu_gI, nd_le, nd_leT, nd_lt, nd_ltT, nd_eq, nd_eqT, sf_n, h.sort hs, h.sort ht]
    by_cases z : U 1 s = U 1 t <;> simp [z]
theorem nm_ck2_bad {p q : Int32} (a : Int32) (h : (p < 0 ∨ nI 8 ≤ p) ∨ (q < 0 ∨ nI 8 ≤ q)) : Nm_checkTwoRows p q a σ = some (-nI 1, σ) := by
  have b1 : ∀ x : Int32, (x < 0 ∨ nI 8 ≤ x) → Nm_isShelf x σ = some (nI 0, σ) := by
    intro x hx
    rcases hx with hx | hx
    · simp (disch := omega) only [Nm_isShelf, pl_0, pl_1, pl_2, pl_3, pl_4, pl_5, pl_6, pl_7, pl_8, pl_9, pl_10, pl_11, pl_12, pl_13, pl_14, pl_15, pl_16, pl_17, pl_18, pl_19, pl_20, pl_21, pl_30, pl_40, pl_50, pl_51, pl_60, pl_70, pl_71, pl_99, pl_100, pl_160, pl_240, pl_256, pl_300, pl_999, pl_1000, pl_1280, pl_9999, pl_10000, pu_neg, pu_nn, pu_le, pu_lt, pu_eq, pu_cl, pu_in, pu_g, ↓pu_let, ↓pu_bind, pu_m1, pu_add, pu_mul, Nat.not_lt_zero, if_false, if_true, Nat.zero_le, pu_d2, pu_d100, pu_em1, ↓reduceIte, Nat.reduceEqDiff, Nat.reduceLT, Nat.reduceLeDiff, Nat.reduceAdd, Nat.reduceMul, Nat.reduceSub, not_true_eq_false, not_false_eq_true, and_true, true_and, and_false, false_and, or_true, true_or, or_false, false_or, Nat.lt_irrefl, Nat.le_refl, Nat.add_zero, Bool.false_eq_true, ↓pu_gI, nd_le, nd_leT, nd_lt, nd_ltT, nd_eq, nd_eqT, ngl hx, nge hx, ngle hx, nggt hx, ngne hx]
    · simp (disch := omega) only [Nm_isShelf, pl_0, pl_1, pl_2, pl_3, pl_4, pl_5, pl_6, pl_7, pl_8, pl_9, pl_10, pl_11, pl_12, pl_13, pl_14, pl_15, pl_16, pl_17, pl_18, pl_19, pl_20, pl_21, pl_30, pl_40, pl_50, pl_51, pl_60, pl_70, pl_71, pl_99, pl_100, pl_160, pl_240, pl_256, pl_300, pl_999, pl_1000, pl_1280, pl_9999, pl_10000, pu_neg, pu_nn, pu_le, pu_lt, pu_eq, pu_cl, pu_in, pu_g, ↓pu_let, ↓pu_bind, pu_m1, pu_add, pu_mul, Nat.not_lt_zero, if_false, if_true, Nat.zero_le, pu_d2, pu_d100, pu_em1, ↓reduceIte, Nat.reduceEqDiff, Nat.reduceLT, Nat.reduceLeDiff, Nat.reduceAdd, Nat.reduceMul, Nat.reduceSub, not_true_eq_false, not_false_eq_true, and_true, true_and, and_false, false_and, or_true, true_or, or_false, false_or, Nat.lt_irrefl, Nat.le_refl, Nat.add_zero, Bool.false_eq_true, ↓pu_gI, nd_le, nd_leT, nd_lt, nd_ltT, nd_eq, nd_eqT, bgl hx, bge hx, bgle hx, bggt hx, bgne hx, bgm1 hx]
  unfold Nm_checkTwoRows
  rcases h with h | h
  · exact bn0 (b1 p h)
  · rcases pu_ix p 8 (by omega) with h1 | h1 | ⟨s, hs, rfl⟩
    · exact bn0 (b1 p (Or.inl h1))
    · exact bn0 (b1 p (Or.inr h1))
    · exact (bn1 (nm_isSh hs)).trans (bn0 (b1 q h))
def cpyE (E : Nat → Nat → Int64) (p q i j n : Nat) : Nat → Nat → Int64 := fun s' i' => if s' = q ∧ j ≤ i' ∧ i' < j + n then E p (i + (i' - j)) else E s' i'
theorem md_cpy1 (h : MF σ T U E) (hP : PF T U) {p q i j n : Nat} (hp : p < 8) (hi : i + n ≤ U 2 p) (K : Int32 → Int32 → Int32 → nm_St → Option (Int32 × nm_St)) (Q : Option (Int32 × nm_St) → Prop) (hK : ∀ τ, τ.1 = σ.1 → (∀ k, k < n → τ.2 83 k = E p (i + k)) → (∀ k l, k ≠ 83 → τ.2 k l = σ.2 k l) → Fr [10, 16] σ τ → Q (K (nI q) (nI j) (nI n) τ)) : Q (Md_copy_l167 K 400 (nI p) (nI q) (nI i) (nI j) (nI n) (nI 0) σ) := by
  have hsz := (hP.2 p hp).1.2.2
  refine lp_Q (fun n' k (a : nm_St) => Md_copy_l167 K n' (nI p) (nI q) (nI i) (nI j) (nI n) (nI k) a) n (fun k a => a.1 = σ.1 ∧ (∀ l, l < k → a.2 83 l = E p (i + l)) ∧ (∀ m l, m ≠ 83 → a.2 m l = σ.2 m l) ∧ Fr [10, 16] σ a) Q ?_ ?_ 400 0 σ (by omega) ⟨rfl, fun l hl => by omega, fun m l _ => rfl, Fr.rf _ _⟩ (by omega)
  · intro n' k a hk hpp ih
    have e82 : a.2 82 (160 * p + i + k) = E p (i + k) := by
      rw [hpp.2.2.1 _ _ (by omega), show 160 * p + i + k = 160 * p + (i + k) by omega]
      exact h.el hp (by omega)
    have hs2 := ih (nm_pJ a 83 k (E p (i + k))) ⟨hpp.1, fun l hl => by
      by_cases e : l = k
      · rw [e, pJ_eq]
      · rw [pJ_ne _ _ (by omega)]; exact hpp.2.1 l (by omega), fun m l hm => by
      rw [pJ_ne _ _ (by omega)]; exact hpp.2.2.1 m l hm, hpp.2.2.2.pJ _ rfl⟩
    simp (disch := omega) only [Md_copy_l167, pl_0, pl_1, pl_2, pl_3, pl_4, pl_5, pl_6, pl_7, pl_8, pl_9, pl_10, pl_11, pl_12, pl_13, pl_14, pl_15, pl_16, pl_17, pl_18, pl_19, pl_20, pl_21, pl_30, pl_40, pl_50, pl_51, pl_60, pl_70, pl_71, pl_99, pl_100, pl_160, pl_240, pl_256, pl_300, pl_999, pl_1000, pl_1280, pl_9999, pl_10000, pu_neg, pu_nn, pu_le, pu_lt, pu_eq, pu_cl, pu_in, pu_g, ↓pu_let, ↓pu_bind, pu_m1, pu_add, pu_mul, Nat.not_lt_zero, if_false, if_true, Nat.zero_le, pu_d2, pu_d100, pu_em1, ↓reduceIte, Nat.reduceEqDiff, Nat.reduceLT, Nat.reduceLeDiff, Nat.reduceAdd, Nat.reduceMul, Nat.reduceSub, not_true_eq_false, not_false_eq_true, and_true, true_and, and_false, false_and, or_true, true_or, or_false, false_or, Nat.lt_irrefl, Nat.le_refl, Nat.add_zero, Bool.false_eq_true, ↓pu_gI, nd_le, nd_leT, nd_lt, nd_ltT, nd_eq, nd_eqT, e82]
    exact hs2
  · intro n' a hpp
    simp (disch := omega) only [Md_copy_l167, pl_0, pl_1, pl_2, pl_3, pl_4, pl_5, pl_6, pl_7, pl_8, pl_9, pl_10, pl_11, pl_12, pl_13, pl_14, pl_15, pl_16, pl_17, pl_18, pl_19, pl_20, pl_21, pl_30, pl_40, pl_50, pl_51, pl_60, pl_70, pl_71, pl_99, pl_100, pl_160, pl_240, pl_256, pl_300, pl_999, pl_1000, pl_1280, pl_9999, pl_10000, pu_neg, pu_nn, pu_le, pu_lt, pu_eq, pu_cl, pu_in, pu_g, ↓pu_let, ↓pu_bind, pu_m1, pu_add, pu_mul, Nat.not_lt_zero, if_false, if_true, Nat.zero_le, pu_d2, pu_d100, pu_em1, ↓reduceIte, Nat.reduceEqDiff, Nat.reduceLT, Nat.reduceLeDiff, Nat.reduceAdd, Nat.reduceMul, Nat.reduceSub, not_true_eq_false, not_false_eq_true, and_true, true_and, and_false, false_and, or_true, true_or, or_false, false_or, Nat.lt_irrefl, Nat.le_refl, Nat.add_zero, Bool.false_eq_true, ↓pu_gI, nd_le, nd_leT, nd_lt, nd_ltT, nd_eq, nd_eqT]
    exact hK a hpp.1 hpp.2.1 hpp.2.2.1 hpp.2.2.2
theorem md_cpy2 {p q i j n : Nat} (hq : q < 8) (hj : j + n ≤ 160) (hc : ∀ k, k < n → σ.2 83 k = E p (i + k)) : ∃ τ, Md_copy_l205 (fun (s41 : nm_St) => some ((1 : Int32), s41)) 400 (nI q) (nI j) (nI n) (nI 0) σ = some (nI 1, τ) ∧ τ.1 = σ.1 ∧ (∀ k, k < n → τ.2 82 (160 * q + j + k) = E p (i + k)) ∧ (∀ m l, ¬ (m = 82 ∧ 160 * q + j ≤ l ∧ l < 160 * q + j + n) → τ.2 m l = σ.2 m l) ∧ Fr [10, 16] σ τ := by
  refine lp_Q (fun n' k (a : nm_St) => Md_copy_l205 _ n' (nI q) (nI j) (nI n) (nI k) a) n (fun k a => a.1 = σ.1 ∧ (∀ l, l < k → a.2 82 (160 * q + j + l) = E p (i + l)) ∧ (∀ m l, ¬ (m = 82 ∧ 160 * q + j ≤ l ∧ l < 160 * q + j + n) → a.2 m l = σ.2 m l) ∧ Fr [10, 16] σ a) (fun r => ∃ τ, r = some (nI 1, τ) ∧ τ.1 = σ.1 ∧ (∀ k, k < n → τ.2 82 (160 * q + j + k) = E p (i + k)) ∧ (∀ m l, ¬ (m = 82 ∧ 160 * q + j ≤ l ∧ l < 160 * q + j + n) → τ.2 m l = σ.2 m l) ∧ Fr [10, 16] σ τ) ?_ ?_ 400 0 σ (by omega) ⟨rfl, fun l hl => by omega, fun m l _ => rfl, Fr.rf _ _⟩ (by omega)
  · intro n' k a hk hpp ih
    have e83 : a.2 83 k = E p (i + k) := by
      rw [hpp.2.2.1 _ _ (by omega)]
      exact hc k hk
    have hs2 := ih (nm_pJ a 82 (160 * q + j + k) (E p (i + k))) ⟨hpp.1, fun l hl => by
      by_cases e : l = k
      · rw [e, pJ_eq]
      · rw [pJ_ne _ _ (by omega)]; exact hpp.2.1 l (by omega), fun m l hm => by
      rw [pJ_ne _ _ (by omega)]; exact hpp.2.2.1 m l hm, hpp.2.2.2.pJ _ rfl⟩
    simp (disch := omega) only [Md_copy_l205, pl_0, pl_1, pl_2, pl_3, pl_4, pl_5, pl_6, pl_7, pl_8, pl_9, pl_10, pl_11, pl_12, pl_13, pl_14, pl_15, pl_16, pl_17, pl_18, pl_19, pl_20, pl_21, pl_30, pl_40, pl_50, pl_51, pl_60, pl_70, pl_71, pl_99, pl_100, pl_160, pl_240, pl_256, pl_300, pl_999, pl_1000, pl_1280, pl_9999, pl_10000, pu_neg, pu_nn, pu_le, pu_lt, pu_eq, pu_cl, pu_in, pu_g, ↓pu_let, ↓pu_bind, pu_m1, pu_add, pu_mul, Nat.not_lt_zero, if_false, if_true, Nat.zero_le, pu_d2, pu_d100, pu_em1, ↓reduceIte, Nat.reduceEqDiff, Nat.reduceLT, Nat.reduceLeDiff, Nat.reduceAdd, Nat.reduceMul, Nat.reduceSub, not_true_eq_false, not_false_eq_true, and_true, true_and, and_false, false_and, or_true, true_or, or_false, false_or, Nat.lt_irrefl, Nat.le_refl, Nat.add_zero, Bool.false_eq_true, ↓pu_gI, nd_le, nd_leT, nd_lt, nd_ltT, nd_eq, nd_eqT, e83]
    exact hs2
  · intro n' a hpp
    simp (disch := omega) only [Md_copy_l205, pl_0, pl_1, pl_2, pl_3, pl_4, pl_5, pl_6, pl_7, pl_8, pl_9, pl_10, pl_11, pl_12, pl_13, pl_14, pl_15, pl_16, pl_17, pl_18, pl_19, pl_20, pl_21, pl_30, pl_40, pl_50, pl_51, pl_60, pl_70, pl_71, pl_99, pl_100, pl_160, pl_240, pl_256, pl_300, pl_999, pl_1000, pl_1280, pl_9999, pl_10000, pu_neg, pu_nn, pu_le, pu_lt, pu_eq, pu_cl, pu_in, pu_g, ↓pu_let, ↓pu_bind, pu_m1, pu_add, pu_mul, Nat.not_lt_zero, if_false, if_true, Nat.zero_le, pu_d2, pu_d100, pu_em1, ↓reduceIte, Nat.reduceEqDiff, Nat.reduceLT, Nat.reduceLeDiff, Nat.reduceAdd, Nat.reduceMul, Nat.reduceSub, not_true_eq_false, not_false_eq_true, and_true, true_and, and_false, false_and, or_true, true_or, or_false, false_or, Nat.lt_irrefl, Nat.le_refl, Nat.add_zero, Bool.false_eq_true, ↓pu_gI, nd_le, nd_leT, nd_lt, nd_ltT, nd_eq, nd_eqT]
    exact ⟨a, rfl, hpp.1, hpp.2.1, hpp.2.2.1, hpp.2.2.2⟩
theorem sh_fit (h : CF σ T U E) (hP : PF T U) {s i n : Nat} (hs : s < 8) (hi : i < 2147483648) (hn : n < 2147483648) : Sh_hasAll (nm_sf (nI s)) (nI i) (nI n) σ = some (nI (if i + n ≤ U 2 s then 1 else 0), σ) := by
  have := (hP.2 s hs).1.2.2
  unfold Sh_hasAll
  simp (disch := omega) only [sf_n, pl_0, pl_1, pl_2, pl_3, pl_4, pl_5, pl_6, pl_7, pl_8, pl_9, pl_10, pl_11, pl_12, pl_13, pl_14, pl_15, pl_16, pl_17, pl_18, pl_19, pl_20, pl_21, pl_30, pl_40, pl_50, pl_51, pl_60, pl_70, pl_71, pl_99, pl_100, pl_160, pl_240, pl_256, pl_300, pl_999, pl_1000, pl_1280, pl_9999, pl_10000, pu_neg, pu_nn, pu_le, pu_lt, pu_eq, pu_cl, pu_in, pu_g, ↓pu_let, ↓pu_bind, pu_m1, pu_add, pu_mul, Nat.not_lt_zero, if_false, if_true, Nat.zero_le, pu_d2, pu_d100, pu_em1, ↓reduceIte, Nat.reduceEqDiff, Nat.reduceLT, Nat.reduceLeDiff, Nat.reduceAdd, Nat.reduceMul, Nat.reduceSub, not_true_eq_false, not_false_eq_true, and_true, true_and, and_false, false_and, or_true, true_or, or_false, false_or, Nat.lt_irrefl, Nat.le_refl, Nat.add_zero, Bool.false_eq_true, ↓pu_gI, nd_le, nd_leT, nd_lt, nd_ltT, nd_eq, nd_eqT, h.size hs, fit_lt]
  by_cases z : i + n ≤ U 2 s <;> simp [z]
theorem sh_fit_n {s : Nat} {i : Int32} (n : Int32) (hi : i < 0) : Sh_hasAll s i n σ = some (nI 0, σ) := by
  unfold Sh_hasAll
  rw [if_pos hi]
  rfl
theorem md_copyA (h : MF σ T U E) (hP : PF T U) {p q : Nat} (hp : p < 8) (hq : q < 8) (a b c : Int32) : Md_copy (nI p) (nI q) a b c σ = if U 0 p = 2 ∨ U 0 q = 2 then some (-nI 2, rfM σ 2) else if U 0 p = 1 ∧ U 0 q = 1 ∧ U 1 p ≠ U 1 q then some (-nI 2, rfM σ 2) else Md_copy_j84 (nI p) (nI q) a b c σ := by
  have o1 := (hP.2 p hp).1
  have o2 := (hP.2 q hq).1
  unfold Md_copy
  refine (bn1 (md_isSh hp)).trans ?_
  refine (bn1 (md_isSh hq)).trans ?_
  simp (disch := omega) only [pl_0, pl_1, pl_2, pl_3, pl_4, pl_5, pl_6, pl_7, pl_8, pl_9, pl_10, pl_11, pl_12, pl_13, pl_14, pl_15, pl_16, pl_17, pl_18, pl_19, pl_20, pl_21, pl_30, pl_40, pl_50, pl_51, pl_60, pl_70, pl_71, pl_99, pl_100, pl_160, pl_240, pl_256, pl_300, pl_999, pl_1000, pl_1280, pl_9999, pl_10000, pu_neg, pu_nn, pu_le, pu_lt, pu_eq, pu_cl, pu_in, pu_g, ↓pu_let, ↓pu_bind, pu_m1, pu_add, pu_mul, Nat.not_lt_zero, if_false, if_true, Nat.zero_le, pu_d2, pu_d100, pu_em1, ↓reduceIte, Nat.reduceEqDiff, Nat.reduceLT, Nat.reduceLeDiff, Nat.reduceAdd, Nat.reduceMul, Nat.reduceSub, not_true_eq_false, not_false_eq_true, and_true, true_and, and_false, false_and, or_true, true_or, or_false, false_or, Nat.lt_irrefl, Nat.le_refl, Nat.add_zero, Bool.false_eq_true, ↓pu_gI, nd_le, nd_leT, nd_lt, nd_ltT, nd_eq, nd_eqT, h.held hp, h.held hq, h.sort hp, h.sort hq, md_no]
  by_cases a1 : U 0 p = 2
  · simp [a1]
  · by_cases a2 : U 0 q = 2
    · simp [a1, a2]
    · by_cases b1 : U 0 p = 1
      · by_cases b2 : U 0 q = 1
        · by_cases b3 : U 1 p = U 1 q <;> simp [b1, b2, b3]
        · simp [a2, b1, b2]
      · simp [a1, a2, b1]
theorem op_copy (h : RelT σ T U E) (p1 p2 p3 p4 p5 : Int32) : OkB σ (Nm_copy p1 p2 p3 p4 p5) (Md_copy p1 p2 p3 p4 p5) := by
  have hP := h.2.2.1
  have bad : (p1 < 0 ∨ nI 8 ≤ p1) ∨ (p2 < 0 ∨ nI 8 ≤ p2) → OkB σ (Nm_copy p1 p2 p3 p4 p5) (Md_copy p1 p2 p3 p4 p5) := fun hb => by
    refine ok_q h (qno (b := -nI 1) 1 (by omega) (by omega) (fun σ h => ?_) (fun σ h => ?_))
    · unfold Nm_copy
      refine (bnr (n := 1) (nm_ck2_bad _ hb) (by omega) (by omega)).trans ?_
      simp (disch := omega) only [Nm_copy_j23, Nm_copy_j63, pl_0, pl_1, pl_2, pl_3, pl_4, pl_5, pl_6, pl_7, pl_8, pl_9, pl_10, pl_11, pl_12, pl_13, pl_14, pl_15, pl_16, pl_17, pl_18, pl_19, pl_20, pl_21, pl_30, pl_40, pl_50, pl_51, pl_60, pl_70, pl_71, pl_99, pl_100, pl_160, pl_240, pl_256, pl_300, pl_999, pl_1000, pl_1280, pl_9999, pl_10000, pu_neg, pu_nn, pu_le, pu_lt, pu_eq, pu_cl, pu_in, pu_g, ↓pu_let, ↓pu_bind, pu_m1, pu_add, pu_mul, Nat.not_lt_zero, if_false, if_true, Nat.zero_le, pu_d2, pu_d100, pu_em1, ↓reduceIte, Nat.reduceEqDiff, Nat.reduceLT, Nat.reduceLeDiff, Nat.reduceAdd, Nat.reduceMul, Nat.reduceSub, not_true_eq_false, not_false_eq_true, and_true, true_and, and_false, false_and, or_true, true_or, or_false, false_or, Nat.lt_irrefl, Nat.le_refl, Nat.add_zero, Bool.false_eq_true, ↓pu_gI, nd_le, nd_leT, nd_lt, nd_ltT, nd_eq, nd_eqT, pu_ng, nm_ref]
    · have b1 : ∀ x : Int32, (x < 0 ∨ nI 8 ≤ x) → Md_isShelf x σ = some (nI 0, σ) := by
        intro x hx
        rcases hx with hx | hx
        · simp (disch := omega) only [Md_isShelf, pl_0, pl_1, pl_2, pl_3, pl_4, pl_5, pl_6, pl_7, pl_8, pl_9, pl_10, pl_11, pl_12, pl_13, pl_14, pl_15, pl_16, pl_17, pl_18, pl_19, pl_20, pl_21, pl_30, pl_40, pl_50, pl_51, pl_60, pl_70, pl_71, pl_99, pl_100, pl_160, pl_240, pl_256, pl_300, pl_999, pl_1000, pl_1280, pl_9999, pl_10000, pu_neg, pu_nn, pu_le, pu_lt, pu_eq, pu_cl, pu_in, pu_g, ↓pu_let, ↓pu_bind, pu_m1, pu_add, pu_mul, Nat.not_lt_zero, if_false, if_true, Nat.zero_le, pu_d2, pu_d100, pu_em1, ↓reduceIte, Nat.reduceEqDiff, Nat.reduceLT, Nat.reduceLeDiff, Nat.reduceAdd, Nat.reduceMul, Nat.reduceSub, not_true_eq_false, not_false_eq_true, and_true, true_and, and_false, false_and, or_true, true_or, or_false, false_or, Nat.lt_irrefl, Nat.le_refl, Nat.add_zero, Bool.false_eq_true, ↓pu_gI, nd_le, nd_leT, nd_lt, nd_ltT, nd_eq, nd_eqT, ngl hx, nge hx, ngle hx, nggt hx, ngne hx]
        · simp (disch := omega) only [Md_isShelf, pl_0, pl_1, pl_2, pl_3, pl_4, pl_5, pl_6, pl_7, pl_8, pl_9, pl_10, pl_11, pl_12, pl_13, pl_14, pl_15, pl_16, pl_17, pl_18, pl_19, pl_20, pl_21, pl_30, pl_40, pl_50, pl_51, pl_60, pl_70, pl_71, pl_99, pl_100, pl_160, pl_240, pl_256, pl_300, pl_999, pl_1000, pl_1280, pl_9999, pl_10000, pu_neg, pu_nn, pu_le, pu_lt, pu_eq, pu_cl, pu_in, pu_g, ↓pu_let, ↓pu_bind, pu_m1, pu_add, pu_mul, Nat.not_lt_zero, if_false, if_true, Nat.zero_le, pu_d2, pu_d100, pu_em1, ↓reduceIte, Nat.reduceEqDiff, Nat.reduceLT, Nat.reduceLeDiff, Nat.reduceAdd, Nat.reduceMul, Nat.reduceSub, not_true_eq_false, not_false_eq_true, and_true, true_and, and_false, false_and, or_true, true_or, or_false, false_or, Nat.lt_irrefl, Nat.le_refl, Nat.add_zero, Bool.false_eq_true, ↓pu_gI, nd_le, nd_leT, nd_lt, nd_ltT, nd_eq, nd_eqT, bgl hx, bge hx, bgle hx, bggt hx, bgne hx, bgm1 hx]
      unfold Md_copy
      rcases hb with hb | hb
      · refine (bn0 (b1 p1 hb)).trans ?_
        exact bind_of (md_no (n := 1) (by omega) (by omega) σ) rfl
      · rcases pu_ix p1 8 (by omega) with h1 | h1 | ⟨p, hp, rfl⟩
        · refine (bn0 (b1 p1 (Or.inl h1))).trans ?_
          exact bind_of (md_no (n := 1) (by omega) (by omega) σ) rfl
        · refine (bn0 (b1 p1 (Or.inr h1))).trans ?_
          exact bind_of (md_no (n := 1) (by omega) (by omega) σ) rfl
        · refine (bn1 (md_isSh hp)).trans ((bn0 (b1 p2 hb)).trans ?_)
          exact bind_of (md_no (n := 1) (by omega) (by omega) σ) rfl
  rcases pu_ix p1 8 (by omega) with h1 | h1 | ⟨p, hp, rfl⟩
  · exact bad (Or.inl (Or.inl h1))
  · exact bad (Or.inl (Or.inr h1))
  rcases pu_ix p2 8 (by omega) with h2 | h2 | ⟨q, hq, rfl⟩
  · exact bad (Or.inr (Or.inl h2))
  · exact bad (Or.inr (Or.inr h2))
  by_cases c2 : U 0 p = 2 ∨ U 0 q = 2
  · have ec : ck2 U p q 1 = 2 := if_pos c2
    refine ok_q h (qno (b := -nI 2) 2 (by omega) (by omega) (fun σ h => ?_) (fun σ h => ?_))
    · have k := nm_ck2 h hP hp hq (show 1 < 2 by omega)
      rw [ec] at k
      unfold Nm_copy
      refine (bnr (n := 2) k (by omega) (by omega)).trans ?_
      simp (disch := omega) only [Nm_copy_j23, Nm_copy_j63, pl_0, pl_1, pl_2, pl_3, pl_4, pl_5, pl_6, pl_7, pl_8, pl_9, pl_10, pl_11, pl_12, pl_13, pl_14, pl_15, pl_16, pl_17, pl_18, pl_19, pl_20, pl_21, pl_30, pl_40, pl_50, pl_51, pl_60, pl_70, pl_71, pl_99, pl_100, pl_160, pl_240, pl_256, pl_300, pl_999, pl_1000, pl_1280, pl_9999, pl_10000, pu_neg, pu_nn, pu_le, pu_lt, pu_eq, pu_cl, pu_in, pu_g, ↓pu_let, ↓pu_bind, pu_m1, pu_add, pu_mul, Nat.not_lt_zero, if_false, if_true, Nat.zero_le, pu_d2, pu_d100, pu_em1, ↓reduceIte, Nat.reduceEqDiff, Nat.reduceLT, Nat.reduceLeDiff, Nat.reduceAdd, Nat.reduceMul, Nat.reduceSub, not_true_eq_false, not_false_eq_true, and_true, true_and, and_false, false_and, or_true, true_or, or_false, false_or, Nat.lt_irrefl, Nat.le_refl, Nat.add_zero, Bool.false_eq_true, ↓pu_gI, nd_le, nd_leT, nd_lt, nd_ltT, nd_eq, nd_eqT, pu_ng, nm_ref]
    · rw [md_copyA h hP hp hq, if_pos c2]
  by_cases c0 : U 0 p = 0 ∨ U 0 q = 0
  · have ec : ck2 U p q 1 = 3 := (if_neg c2).trans (if_pos c0)
    refine ok_q h (qno (b := -nI 3) 3 (by omega) (by omega) (fun σ h => ?_) (fun σ h => ?_))
    · have k := nm_ck2 h hP hp hq (show 1 < 2 by omega)
      rw [ec] at k
      unfold Nm_copy
      refine (bnr (n := 3) k (by omega) (by omega)).trans ?_
      simp (disch := omega) only [Nm_copy_j23, Nm_copy_j63, pl_0, pl_1, pl_2, pl_3, pl_4, pl_5, pl_6, pl_7, pl_8, pl_9, pl_10, pl_11, pl_12, pl_13, pl_14, pl_15, pl_16, pl_17, pl_18, pl_19, pl_20, pl_21, pl_30, pl_40, pl_50, pl_51, pl_60, pl_70, pl_71, pl_99, pl_100, pl_160, pl_240, pl_256, pl_300, pl_999, pl_1000, pl_1280, pl_9999, pl_10000, pu_neg, pu_nn, pu_le, pu_lt, pu_eq, pu_cl, pu_in, pu_g, ↓pu_let, ↓pu_bind, pu_m1, pu_add, pu_mul, Nat.not_lt_zero, if_false, if_true, Nat.zero_le, pu_d2, pu_d100, pu_em1, ↓reduceIte, Nat.reduceEqDiff, Nat.reduceLT, Nat.reduceLeDiff, Nat.reduceAdd, Nat.reduceMul, Nat.reduceSub, not_true_eq_false, not_false_eq_true, and_true, true_and, and_false, false_and, or_true, true_or, or_false, false_or, Nat.lt_irrefl, Nat.le_refl, Nat.add_zero, Bool.false_eq_true, ↓pu_gI, nd_le, nd_leT, nd_lt, nd_ltT, nd_eq, nd_eqT, pu_ng, nm_ref]
    · rw [md_copyA h hP hp hq, if_neg c2, if_neg (by omega)]
      have l1 := (hP.2 p hp).1
      have l2 := (hP.2 q hq).1
      unfold Md_copy_j84
      simp (disch := omega) only [pl_0, pl_1, pl_2, pl_3, pl_4, pl_5, pl_6, pl_7, pl_8, pl_9, pl_10, pl_11, pl_12, pl_13, pl_14, pl_15, pl_16, pl_17, pl_18, pl_19, pl_20, pl_21, pl_30, pl_40, pl_50, pl_51, pl_60, pl_70, pl_71, pl_99, pl_100, pl_160, pl_240, pl_256, pl_300, pl_999, pl_1000, pl_1280, pl_9999, pl_10000, pu_neg, pu_nn, pu_le, pu_lt, pu_eq, pu_cl, pu_in, pu_g, ↓pu_let, ↓pu_bind, pu_m1, pu_add, pu_mul, Nat.not_lt_zero, if_false, if_true, Nat.zero_le, pu_d2, pu_d100, pu_em1, ↓reduceIte, Nat.reduceEqDiff, Nat.reduceLT, Nat.reduceLeDiff, Nat.reduceAdd, Nat.reduceMul, Nat.reduceSub, not_true_eq_false, not_false_eq_true, and_true, true_and, and_false, false_and, or_true, true_or, or_false, false_or, Nat.lt_irrefl, Nat.le_refl, Nat.add_zero, Bool.false_eq_true, ↓pu_gI, nd_le, nd_leT, nd_lt, nd_ltT, nd_eq, nd_eqT, h.held hp, h.held hq, md_no]
      by_cases z : U 0 p = 0
      · rw [if_pos z]
      · rw [if_neg z]
  have e0 : U 0 p = 1 := by have := (hP.2 p hp).1.1; omega
  have f0 : U 0 q = 1 := by have := (hP.2 q hq).1.1; omega
  have zp := (hP.2 p hp).1.2.2
  have zq := (hP.2 q hq).1.2.2
  by_cases cs : U 1 p = U 1 q
  · have ec : ck2 U p q 1 = 0 := (if_neg c2).trans ((if_neg c0).trans (if_neg (by simp [cs])))
    have kA : ∀ σ, CF σ T U E → Nm_checkTwoRows (nI p) (nI q) (nI 1) σ = some (nI 0, σ) := fun σ h => by
      have k := nm_ck2 h hP hp hq (show 1 < 2 by omega)
      rw [ec] at k
      exact k
    have kM : ∀ σ, MF σ T U E → ∀ a b c, Md_copy (nI p) (nI q) a b c σ = Md_copy_j84 (nI p) (nI q) a b c σ := fun σ h a b c => by
      rw [md_copyA h hP hp hq, if_neg c2, if_neg (by omega)]
    by_cases h5 : p5 < 0
    · refine ok_q h (qno (b := -nI 4) 4 (by omega) (by omega) (fun σ h => ?_) (fun σ h => ?_))
      · unfold Nm_copy
        refine (bn0 (kA σ h)).trans ?_
        simp (disch := omega) only [Nm_copy_j23, Nm_copy_j63, pl_0, pl_1, pl_2, pl_3, pl_4, pl_5, pl_6, pl_7, pl_8, pl_9, pl_10, pl_11, pl_12, pl_13, pl_14, pl_15, pl_16, pl_17, pl_18, pl_19, pl_20, pl_21, pl_30, pl_40, pl_50, pl_51, pl_60, pl_70, pl_71, pl_99, pl_100, pl_160, pl_240, pl_256, pl_300, pl_999, pl_1000, pl_1280, pl_9999, pl_10000, pu_neg, pu_nn, pu_le, pu_lt, pu_eq, pu_cl, pu_in, pu_g, ↓pu_let, ↓pu_bind, pu_m1, pu_add, pu_mul, Nat.not_lt_zero, if_false, if_true, Nat.zero_le, pu_d2, pu_d100, pu_em1, ↓reduceIte, Nat.reduceEqDiff, Nat.reduceLT, Nat.reduceLeDiff, Nat.reduceAdd, Nat.reduceMul, Nat.reduceSub, not_true_eq_false, not_false_eq_true, and_true, true_and, and_false, false_and, or_true, true_or, or_false, false_or, Nat.lt_irrefl, Nat.le_refl, Nat.add_zero, Bool.false_eq_true, ↓pu_gI, nd_le, nd_leT, nd_lt, nd_ltT, nd_eq, nd_eqT, pu_ng, ngl h5, nge h5, ngle h5, nggt h5, ngne h5, nm_ref]
      · rw [kM σ h]
        simp (disch := omega) only [Md_copy_j84, pl_0, pl_1, pl_2, pl_3, pl_4, pl_5, pl_6, pl_7, pl_8, pl_9, pl_10, pl_11, pl_12, pl_13, pl_14, pl_15, pl_16, pl_17, pl_18, pl_19, pl_20, pl_21, pl_30, pl_40, pl_50, pl_51, pl_60, pl_70, pl_71, pl_99, pl_100, pl_160, pl_240, pl_256, pl_300, pl_999, pl_1000, pl_1280, pl_9999, pl_10000, pu_neg, pu_nn, pu_le, pu_lt, pu_eq, pu_cl, pu_in, pu_g, ↓pu_let, ↓pu_bind, pu_m1, pu_add, pu_mul, Nat.not_lt_zero, if_false, if_true, Nat.zero_le, pu_d2, pu_d100, pu_em1, ↓reduceIte, Nat.reduceEqDiff, Nat.reduceLT, Nat.reduceLeDiff, Nat.reduceAdd, Nat.reduceMul, Nat.reduceSub, not_true_eq_false, not_false_eq_true, and_true, true_and, and_false, false_and, or_true, true_or, or_false, false_or, Nat.lt_irrefl, Nat.le_refl, Nat.add_zero, Bool.false_eq_true, ↓pu_gI, nd_le, nd_leT, nd_lt, nd_ltT, nd_eq, nd_eqT, h.held hp, h.held hq, e0, f0, ngl h5, nge h5, ngle h5, nggt h5, ngne h5, md_no]
    obtain ⟨n, hn, rfl⟩ := nI_of h5
    clear h5
    have n5 : ∀ σ, Nm_copy_j59 (nI p) (nI q) p3 p4 (nI n) σ = some (-nI 5, rfC σ 5) := fun σ => by
      unfold Nm_copy_j59 Nm_copy_j63
      simp (disch := omega) only [pl_0, pl_1, pl_2, pl_3, pl_4, pl_5, pl_6, pl_7, pl_8, pl_9, pl_10, pl_11, pl_12, pl_13, pl_14, pl_15, pl_16, pl_17, pl_18, pl_19, pl_20, pl_21, pl_30, pl_40, pl_50, pl_51, pl_60, pl_70, pl_71, pl_99, pl_100, pl_160, pl_240, pl_256, pl_300, pl_999, pl_1000, pl_1280, pl_9999, pl_10000, pu_neg, pu_nn, pu_le, pu_lt, pu_eq, pu_cl, pu_in, pu_g, ↓pu_let, ↓pu_bind, pu_m1, pu_add, pu_mul, Nat.not_lt_zero, if_false, if_true, Nat.zero_le, pu_d2, pu_d100, pu_em1, ↓reduceIte, Nat.reduceEqDiff, Nat.reduceLT, Nat.reduceLeDiff, Nat.reduceAdd, Nat.reduceMul, Nat.reduceSub, not_true_eq_false, not_false_eq_true, and_true, true_and, and_false, false_and, or_true, true_or, or_false, false_or, Nat.lt_irrefl, Nat.le_refl, Nat.add_zero, Bool.false_eq_true, ↓pu_gI, nd_le, nd_leT, nd_lt, nd_ltT, nd_eq, nd_eqT, pu_ng, nm_ref]
    have kB : ∀ σ, CF σ T U E → Nm_copy (nI p) (nI q) p3 p4 (nI n) σ = Nm_copy_j23 (nI p) (nI q) p3 p4 (nI n) (nI 0) σ := fun σ h => by
      unfold Nm_copy
      refine (bn0 (kA σ h)).trans ?_
      rw [if_pos (nI_pos' (by omega))]
    by_cases h3 : p3 < 0
    · refine ok_q h (qno (b := -nI 5) 5 (by omega) (by omega) (fun σ h => ?_) (fun σ h => ?_))
      · rw [kB σ h]
        unfold Nm_copy_j23
        rw [if_pos nI_0]
        refine (gin hp (by omega)).trans ((bn0 (sh_fit_n _ h3)).trans ?_)
        exact n5 σ
      · rw [kM σ h]
        simp (disch := omega) only [Md_copy_j84, pl_0, pl_1, pl_2, pl_3, pl_4, pl_5, pl_6, pl_7, pl_8, pl_9, pl_10, pl_11, pl_12, pl_13, pl_14, pl_15, pl_16, pl_17, pl_18, pl_19, pl_20, pl_21, pl_30, pl_40, pl_50, pl_51, pl_60, pl_70, pl_71, pl_99, pl_100, pl_160, pl_240, pl_256, pl_300, pl_999, pl_1000, pl_1280, pl_9999, pl_10000, pu_neg, pu_nn, pu_le, pu_lt, pu_eq, pu_cl, pu_in, pu_g, ↓pu_let, ↓pu_bind, pu_m1, pu_add, pu_mul, Nat.not_lt_zero, if_false, if_true, Nat.zero_le, pu_d2, pu_d100, pu_em1, ↓reduceIte, Nat.reduceEqDiff, Nat.reduceLT, Nat.reduceLeDiff, Nat.reduceAdd, Nat.reduceMul, Nat.reduceSub, not_true_eq_false, not_false_eq_true, and_true, true_and, and_false, false_and, or_true, true_or, or_false, false_or, Nat.lt_irrefl, Nat.le_refl, Nat.add_zero, Bool.false_eq_true, ↓pu_gI, nd_le, nd_leT, nd_lt, nd_ltT, nd_eq, nd_eqT, h.held hp, h.held hq, e0, f0, ngl h3, nge h3, ngle h3, nggt h3, ngne h3, md_no]
    obtain ⟨i, hi, rfl⟩ := nI_of h3
    clear h3
    by_cases w : i + n ≤ U 2 p
    · have kF : ∀ σ, CF σ T U E → Sh_hasAll (nm_sf (nI p)) (nI i) (nI n) σ = some (nI 1, σ) := fun σ h => by
        rw [sh_fit h hP hp hi hn, if_pos w]
      by_cases h4 : p4 < 0
      · refine ok_q h (qno (b := -nI 5) 5 (by omega) (by omega) (fun σ h => ?_) (fun σ h => ?_))
        · rw [kB σ h]
          unfold Nm_copy_j23
          rw [if_pos nI_0]
          refine (gin hp (by omega)).trans ((bn1 (kF σ h)).trans ((gin hq (by omega)).trans ((bn0 (sh_fit_n _ h4)).trans ?_)))
          exact n5 σ
        · rw [kM σ h]
          simp (disch := omega) only [Md_copy_j84, pl_0, pl_1, pl_2, pl_3, pl_4, pl_5, pl_6, pl_7, pl_8, pl_9, pl_10, pl_11, pl_12, pl_13, pl_14, pl_15, pl_16, pl_17, pl_18, pl_19, pl_20, pl_21, pl_30, pl_40, pl_50, pl_51, pl_60, pl_70, pl_71, pl_99, pl_100, pl_160, pl_240, pl_256, pl_300, pl_999, pl_1000, pl_1280, pl_9999, pl_10000, pu_neg, pu_nn, pu_le, pu_lt, pu_eq, pu_cl, pu_in, pu_g, ↓pu_let, ↓pu_bind, pu_m1, pu_add, pu_mul, Nat.not_lt_zero, if_false, if_true, Nat.zero_le, pu_d2, pu_d100, pu_em1, ↓reduceIte, Nat.reduceEqDiff, Nat.reduceLT, Nat.reduceLeDiff, Nat.reduceAdd, Nat.reduceMul, Nat.reduceSub, not_true_eq_false, not_false_eq_true, and_true, true_and, and_false, false_and, or_true, true_or, or_false, false_or, Nat.lt_irrefl, Nat.le_refl, Nat.add_zero, Bool.false_eq_true, ↓pu_gI, nd_le, nd_leT, nd_lt, nd_ltT, nd_eq, nd_eqT, h.held hp, h.held hq, e0, f0, ngl h4, nge h4, ngle h4, nggt h4, ngne h4, md_no]
      obtain ⟨j, hj, rfl⟩ := nI_of h4
      clear h4
      by_cases w2 : j + n ≤ U 2 q
      · have kG : ∀ σ, CF σ T U E → Sh_hasAll (nm_sf (nI q)) (nI j) (nI n) σ = some (nI 1, σ) := fun σ h => by
          rw [sh_fit h hP hq hj hn, if_pos w2]
        refine ok_s h (nI 1) U (cpyE E p q i j n) hP.2 ⟨nm_cpJ σ (54 + 2 * p + 1) i (54 + 2 * q + 1) j n, ?_, fun k l hk => ⟨rfl, ?_⟩, h.1.2.1, fun s' i' hs' hi' => ?_⟩ (fun τ hτ => ?_)
        · rw [kB σ h.1]
          unfold Nm_copy_j23
          rw [if_pos nI_0]
          refine (gin hp (by omega)).trans ((bn1 (kF σ h.1)).trans ((gin hq (by omega)).trans ((bn1 (kG σ h.1)).trans ?_)))
          unfold Nm_copy_j63
          rw [if_pos nI_0]
          refine (gin hq (by omega)).trans ((gin hp (by omega)).trans ?_)
          refine bind_of (a := ()) (s := nm_cpJ σ (54 + 2 * p + 1) i (54 + 2 * q + 1) j n) ?_ rfl
          unfold Sh_take
          refine (bn1 (kF σ h.1)).trans ((bn1 (kG σ h.1)).trans ?_)
          simp (disch := omega) only [cg_n, pu_g, pu_let, sf_n, pu_cl]
        · show nm_cp σ.2 _ _ _ _ _ k l = _
          unfold nm_cp
          rw [if_neg]
          rintro ⟨rfl, -⟩
          rw [(rg_sh hq _).2] at hk
          exact absurd hk (by decide)
        · show nm_cp σ.2 _ _ _ _ _ _ _ = _
          unfold nm_cp cpyE
          by_cases z : s' = q ∧ j ≤ i' ∧ i' < j + n
          · rw [if_pos z, if_pos (by omega)]
            exact h.1.el hp (by omega)
          · rw [if_neg z, if_neg (by omega)]
            exact h.1.el hs' hi'
        · have hA : Md_copy_j84 (nI p) (nI q) (nI i) (nI j) (nI n) τ = Md_copy_l167 (fun (e34 : Int32) (e35 : Int32) (e36 : Int32) (s33 : nm_St) => Md_copy_l205 (fun (s41 : nm_St) => some ((1 : Int32), s41)) 400 e34 e35 e36 (nI 0) s33) 400 (nI p) (nI q) (nI i) (nI j) (nI n) (nI 0) τ := by
            simp (disch := omega) only [Md_copy_j84, pl_0, pl_1, pl_2, pl_3, pl_4, pl_5, pl_6, pl_7, pl_8, pl_9, pl_10, pl_11, pl_12, pl_13, pl_14, pl_15, pl_16, pl_17, pl_18, pl_19, pl_20, pl_21, pl_30, pl_40, pl_50, pl_51, pl_60, pl_70, pl_71, pl_99, pl_100, pl_160, pl_240, pl_256, pl_300, pl_999, pl_1000, pl_1280, pl_9999, pl_10000, pu_neg, pu_nn, pu_le, pu_lt, pu_eq, pu_cl, pu_in, pu_g, ↓pu_let, ↓pu_bind, pu_m1, pu_add, pu_mul, Nat.not_lt_zero, if_false, if_true, Nat.zero_le, pu_d2, pu_d100, pu_em1, ↓reduceIte, Nat.reduceEqDiff, Nat.reduceLT, Nat.reduceLeDiff, Nat.reduceAdd, Nat.reduceMul, Nat.reduceSub, not_true_eq_false, not_false_eq_true, and_true, true_and, and_false, false_and, or_true, true_or, or_false, false_or, Nat.lt_irrefl, Nat.le_refl, Nat.add_zero, Bool.false_eq_true, ↓pu_gI, nd_le, nd_leT, nd_lt, nd_ltT, nd_eq, nd_eqT, hτ.held hp, hτ.held hq, hτ.size hp e0, hτ.size hq f0, e0, f0, fit_lt, fit_le, w, w2]
          rw [kM τ hτ, hA]
          refine md_cpy1 hτ hP hp w _ (fun r => ∃ τ', r = some (nI 1, τ') ∧ Fr [10, 16] τ τ' ∧ ShM τ' U ∧ ElM τ' U (cpyE E p q i j n)) (fun ρ r1 r2 r3 r4 => ?_)
          obtain ⟨τ', e1, t1, t2, t3, t4⟩ := md_cpy2 (E := E) (p := p) (i := i) (j := j) hq (by omega) r2
          refine ⟨τ', e1, r4.tr t4, fun s' hs' => ?_, fun s' i' hs' hi' => ?_⟩
          · rw [t1, r1]
            exact hτ.2.1 s' hs'
          · unfold cpyE
            have a1 := (hP.2 s' hs').1.2.2
            by_cases z : s' = q ∧ j ≤ i' ∧ i' < j + n
            · have := t2 (i' - j) (by omega)
              rw [if_pos z, ← this, show 160 * s' + i' = 160 * q + j + (i' - j) by omega]
            · rw [if_neg z, t3 _ _ (by omega), r3 _ _ (by omega)]
              exact hτ.el hs' hi'
      · refine ok_q h (qno (b := -nI 5) 5 (by omega) (by omega) (fun σ h => ?_) (fun σ h => ?_))
        · have kG : Sh_hasAll (nm_sf (nI q)) (nI j) (nI n) σ = some (nI 0, σ) := by
            rw [sh_fit h hP hq hj hn, if_neg w2]
          rw [kB σ h]
          unfold Nm_copy_j23
          rw [if_pos nI_0]
          refine (gin hp (by omega)).trans ((bn1 (kF σ h)).trans ((gin hq (by omega)).trans ((bn0 kG).trans ?_)))
          exact n5 σ
        · rw [kM σ h]
          simp (disch := omega) only [Md_copy_j84, pl_0, pl_1, pl_2, pl_3, pl_4, pl_5, pl_6, pl_7, pl_8, pl_9, pl_10, pl_11, pl_12, pl_13, pl_14, pl_15, pl_16, pl_17, pl_18, pl_19, pl_20, pl_21, pl_30, pl_40, pl_50, pl_51, pl_60, pl_70, pl_71, pl_99, pl_100, pl_160, pl_240, pl_256, pl_300, pl_999, pl_1000, pl_1280, pl_9999, pl_10000, pu_neg, pu_nn, pu_le, pu_lt, pu_eq, pu_cl, pu_in, pu_g, ↓pu_let, ↓pu_bind, pu_m1, pu_add, pu_mul, Nat.not_lt_zero, if_false, if_true, Nat.zero_le, pu_d2, pu_d100, pu_em1, ↓reduceIte, Nat.reduceEqDiff, Nat.reduceLT, Nat.reduceLeDiff, Nat.reduceAdd, Nat.reduceMul, Nat.reduceSub, not_true_eq_false, not_false_eq_true, and_true, true_and, and_false, false_and, or_true, true_or, or_false, false_or, Nat.lt_irrefl, Nat.le_refl, Nat.add_zero, Bool.false_eq_true, ↓pu_gI, nd_le, nd_leT, nd_lt, nd_ltT, nd_eq, nd_eqT, h.held hp, h.held hq, h.size hp e0, h.size hq f0, e0, f0, fit_lt, fit_le, w, w2, md_no]
    · refine ok_q h (qno (b := -nI 5) 5 (by omega) (by omega) (fun σ h => ?_) (fun σ h => ?_))
      · have kF : Sh_hasAll (nm_sf (nI p)) (nI i) (nI n) σ = some (nI 0, σ) := by
          rw [sh_fit h hP hp hi hn, if_neg w]
        rw [kB σ h]
        unfold Nm_copy_j23
        rw [if_pos nI_0]
        refine (gin hp (by omega)).trans ((bn0 kF).trans ?_)
        exact n5 σ
      · rw [kM σ h]
        by_cases h4 : p4 < 0
        · simp (disch := omega) only [Md_copy_j84, pl_0, pl_1, pl_2, pl_3, pl_4, pl_5, pl_6, pl_7, pl_8, pl_9, pl_10, pl_11, pl_12, pl_13, pl_14, pl_15, pl_16, pl_17, pl_18, pl_19, pl_20, pl_21, pl_30, pl_40, pl_50, pl_51, pl_60, pl_70, pl_71, pl_99, pl_100, pl_160, pl_240, pl_256, pl_300, pl_999, pl_1000, pl_1280, pl_9999, pl_10000, pu_neg, pu_nn, pu_le, pu_lt, pu_eq, pu_cl, pu_in, pu_g, ↓pu_let, ↓pu_bind, pu_m1, pu_add, pu_mul, Nat.not_lt_zero, if_false, if_true, Nat.zero_le, pu_d2, pu_d100, pu_em1, ↓reduceIte, Nat.reduceEqDiff, Nat.reduceLT, Nat.reduceLeDiff, Nat.reduceAdd, Nat.reduceMul, Nat.reduceSub, not_true_eq_false, not_false_eq_true, and_true, true_and, and_false, false_and, or_true, true_or, or_false, false_or, Nat.lt_irrefl, Nat.le_refl, Nat.add_zero, Bool.false_eq_true, ↓pu_gI, nd_le, nd_leT, nd_lt, nd_ltT, nd_eq, nd_eqT, h.held hp, h.held hq, e0, f0, ngl h4, nge h4, ngle h4, nggt h4, ngne h4, md_no]
        · obtain ⟨j, hj, rfl⟩ := nI_of h4
          simp (disch := omega) only [Md_copy_j84, pl_0, pl_1, pl_2, pl_3, pl_4, pl_5, pl_6, pl_7, pl_8, pl_9, pl_10, pl_11, pl_12, pl_13, pl_14, pl_15, pl_16, pl_17, pl_18, pl_19, pl_20, pl_21, pl_30, pl_40, pl_50, pl_51, pl_60, pl_70, pl_71, pl_99, pl_100, pl_160, pl_240, pl_256, pl_300, pl_999, pl_1000, pl_1280, pl_9999, pl_10000, pu_neg, pu_nn, pu_le, pu_lt, pu_eq, pu_cl, pu_in, pu_g, ↓pu_let, ↓pu_bind, pu_m1, pu_add, pu_mul, Nat.not_lt_zero, if_false, if_true, Nat.zero_le, pu_d2, pu_d100, pu_em1, ↓reduceIte, Nat.reduceEqDiff, Nat.reduceLT, Nat.reduceLeDiff, Nat.reduceAdd, Nat.reduceMul, Nat.reduceSub, not_true_eq_false, not_false_eq_true, and_true, true_and, and_false, false_and, or_true, true_or, or_false, false_or, Nat.lt_irrefl, Nat.le_refl, Nat.add_zero, Bool.false_eq_true, ↓pu_gI, nd_le, nd_leT, nd_lt, nd_ltT, nd_eq, nd_eqT, h.held hp, h.held hq, h.size hp e0, e0, f0, fit_lt, w, md_no]
  · have ec : ck2 U p q 1 = 2 := (if_neg c2).trans ((if_neg c0).trans (if_pos ⟨rfl, cs⟩))
    refine ok_q h (qno (b := -nI 2) 2 (by omega) (by omega) (fun σ h => ?_) (fun σ h => ?_))
    · have k := nm_ck2 h hP hp hq (show 1 < 2 by omega)
      rw [ec] at k
      unfold Nm_copy
      refine (bnr (n := 2) k (by omega) (by omega)).trans ?_
      simp (disch := omega) only [Nm_copy_j23, Nm_copy_j63, pl_0, pl_1, pl_2, pl_3, pl_4, pl_5, pl_6, pl_7, pl_8, pl_9, pl_10, pl_11, pl_12, pl_13, pl_14, pl_15, pl_16, pl_17, pl_18, pl_19, pl_20, pl_21, pl_30, pl_40, pl_50, pl_51, pl_60, pl_70, pl_71, pl_99, pl_100, pl_160, pl_240, pl_256, pl_300, pl_999, pl_1000, pl_1280, pl_9999, pl_10000, pu_neg, pu_nn, pu_le, pu_lt, pu_eq, pu_cl, pu_in, pu_g, ↓pu_let, ↓pu_bind, pu_m1, pu_add, pu_mul, Nat.not_lt_zero, if_false, if_true, Nat.zero_le, pu_d2, pu_d100, pu_em1, ↓reduceIte, Nat.reduceEqDiff, Nat.reduceLT, Nat.reduceLeDiff, Nat.reduceAdd, Nat.reduceMul, Nat.reduceSub, not_true_eq_false, not_false_eq_true, and_true, true_and, and_false, false_and, or_true, true_or, or_false, false_or, Nat.lt_irrefl, Nat.le_refl, Nat.add_zero, Bool.false_eq_true, ↓pu_gI, nd_le, nd_leT, nd_lt, nd_ltT, nd_eq, nd_eqT, pu_ng, nm_ref]
    · rw [md_copyA h hP hp hq, if_neg c2, if_pos ⟨e0, f0, cs⟩]
end CHK
