/-! the model's reader: words -/
/-- a word with the blank behind it -/
def wbL (w : Nat) : List Nat := wdL w ++ [32]
def stN (w : Nat) : Nat := [0, 7, 14, 21, 26, 32, 39, 45, 51].getD w 0
theorem wb_len (w : Nat) : (wbL w).length = (wdL w).length + 1 := List.length_append
theorem st_s : ∀ w, w < 8 → stN (w + 1) = stN w + ((wdL w).length + 2) ∧ stN w + ((wdL w).length + 2) ≤ 51 := by decide
theorem wn_at : ∀ w, w < 8 → ∀ i, i < 6 → i < (wdL w).length + 1 → wdN.getD (stN w + i) 0 = (wbL w).getD i 0 := by decide
theorem wn_0 : ∀ w, w < 8 → wdN.getD (stN w + ((wdL w).length + 1)) 0 = 0 := by decide
theorem wb_c : ∀ w, w < 8 → ∀ i, i < 6 → i < (wdL w).length + 1 → 1 ≤ (wbL w).getD i 0 ∧ (wbL w).getD i 0 < 128 := by decide
theorem wb_l : ∀ w, w < 8 → ∀ i, i < 5 → i < (wdL w).length → (wbL w).getD i 0 = (wdL w).getD i 0 ∧ 33 ≤ (wdL w).getD i 0 ∧ (wdL w).getD i 0 < 128 := by decide
theorem wb_32 : ∀ w, w < 8 → (wbL w).getD (wdL w).length 0 = 32 := by decide
section LTB
variable {g : Nat → Int32} {N : Nat}
theorem lt_app (c : Nat) : ∀ (L : List Nat) (p : Nat), ltN g N p (L ++ [c]) = if ltN g N p L = L.length ∧ p + L.length < N ∧ g (p + L.length) = nI c then L.length + 1 else ltN g N p L := by
  intro L
  induction L with
  | nil =>
    intro p
    show (if p < N ∧ g p = nI c then 0 + 1 else 0) = if (0 : Nat) = 0 ∧ p + 0 < N ∧ g (p + 0) = nI c then 0 + 1 else 0
    by_cases z : p < N ∧ g p = nI c
    · rw [if_pos z, if_pos ⟨rfl, z⟩]
    · rw [if_neg z, if_neg (fun x => z x.2)]
  | cons d L ih =>
    intro p
    have e1 : ltN g N p ((d :: L) ++ [c]) = if p < N ∧ g p = nI d then ltN g N (p + 1) (L ++ [c]) + 1 else 0 := rfl
    have e2 : ltN g N p (d :: L) = if p < N ∧ g p = nI d then ltN g N (p + 1) L + 1 else 0 := rfl
    have e3 : (d :: L).length = L.length + 1 := rfl
    rw [e1, e2, e3]
    have ep : p + 1 + L.length = p + (L.length + 1) := by omega
    have I := ih (p + 1)
    rw [ep] at I
    by_cases z : p < N ∧ g p = nI d
    · rw [if_pos z, if_pos z, I]
      by_cases y : ltN g N (p + 1) L = L.length ∧ p + (L.length + 1) < N ∧ g (p + (L.length + 1)) = nI c
      · rw [if_pos y, if_pos ⟨by omega, y.2⟩]
      · rw [if_neg y, if_neg (fun x => y ⟨by omega, x.2⟩)]
    · rw [if_neg z, if_neg z, if_neg (fun x => by omega)]
theorem wb_full {p w : Nat} (h : ltN g N p (wbL w) = (wbL w).length) : ltN g N p (wdL w) = (wdL w).length ∧ p + (wdL w).length < N ∧ g (p + (wdL w).length) = nI 32 := by
  have a := lt_app (g := g) (N := N) 32 (wdL w) p
  have l := lt_le g N (wdL w) p
  have e := wb_len w
  by_cases z : ltN g N p (wdL w) = (wdL w).length ∧ p + (wdL w).length < N ∧ g (p + (wdL w).length) = nI 32
  · exact z
  · rw [if_neg z] at a
    have h' : ltN g N p (wdL w ++ [32]) = (wbL w).length := h
    omega
theorem wb_f {p w : Nat} (h : ltN g N p (wdL w) = (wdL w).length) (h2 : p + (wdL w).length < N) (h3 : g (p + (wdL w).length) = nI 32) : ltN g N p (wbL w) = (wbL w).length := by
  have a := lt_app (g := g) (N := N) 32 (wdL w) p
  rw [if_pos ⟨h, h2, h3⟩] at a
  exact a.trans (wb_len w).symm
theorem wb_n {p w : Nat} (h : ¬ (ltN g N p (wdL w) = (wdL w).length ∧ p + (wdL w).length < N ∧ g (p + (wdL w).length) = nI 32)) : ltN g N p (wbL w) = ltN g N p (wdL w) := by
  have a := lt_app (g := g) (N := N) 32 (wdL w) p
  rw [if_neg h] at a
  exact a
end LTB
section RDW
variable {g : Nat → Int32} {N s : Nat} {T0 T V : is_T} {σ a b : nm_St} {p : Nat}
theorem TxM.wd (h : TxM g N s T0 σ a p T) {i : Nat} (hi : i < 51) : a.1 84 i = nI (wdN.getD i 0) := h.2.2.2.1.1 i hi
/-- letter i of a word: it goes on -/
theorem md_l24s (h : TxM g N s T0 σ a p T) (K : Int32 → Int32 → Int32 → Int32 → Int32 → nm_St → Option (Int32 × nm_St)) {w i n : Nat} (hw : w < 8) (x1 x2 x3 : Int32) (hi : i < ltN g N p (wbL w)) : Md_word_l24 K (n + 1) x1 x2 x3 (nI (p + i)) (nI (stN w + i)) a = Md_word_l24 K n x1 x2 x3 (nI (p + (i + 1))) (nI (stN w + (i + 1))) a := by
  obtain ⟨hN, hs⟩ := h.kn
  have hb := wb_len w
  have l := wd_len w hw
  have le := lt_le g N (wbL w) p
  have S := st_s w hw
  have A := lt_at (wbL w) p i hi
  have C := wb_c w hw i (by omega) (by omega)
  have k84 := h.wd (i := stN w + i) (by omega)
  rw [wn_at w hw i (by omega) (by omega)] at k84
  have eg := h.kg A.1
  rw [A.2] at eg
  rw [Md_word_l24, gin (show stN w + i < 51 by omega) (by omega), pu_cl (by omega), k84, if_neg (nI_ne0 C.1 (by omega)), h.ke, if_neg (show ¬ nI N ≤ nI (p + i) by rw [pu_le (by omega) (by omega)]; omega), h.kb, pu_add, gin (show 160 * s + (p + i) < 1280 by omega) (by omega), gin (show stN w + i < 51 by omega) (by omega), pu_cl (by omega), eg, if_pos rfl, pl_1, pu_add, pu_add, Nat.add_assoc, Nat.add_assoc]
/-- it ends -/
theorem md_l24e (h : TxM g N s T0 σ a p T) (hp : p ≤ N) (K : Int32 → Int32 → Int32 → Int32 → Int32 → nm_St → Option (Int32 × nm_St)) {w n : Nat} (hw : w < 8) (x1 x2 x3 : Int32) : Md_word_l24 K (n + 1) x1 x2 x3 (nI (p + ltN g N p (wbL w))) (nI (stN w + ltN g N p (wbL w))) a = K x1 x2 x3 (nI (p + ltN g N p (wbL w))) (nI (stN w + ltN g N p (wbL w))) a := by
  obtain ⟨hN, hs⟩ := h.kn
  have hb := wb_len w
  have l := wd_len w hw
  have le := lt_le g N (wbL w) p
  have S := st_s w hw
  by_cases z : ltN g N p (wbL w) = (wbL w).length
  · have k84 := h.wd (i := stN w + ltN g N p (wbL w)) (by omega)
    rw [show stN w + ltN g N p (wbL w) = stN w + ((wdL w).length + 1) by omega, wn_0 w hw] at k84
    rw [Md_word_l24, gin (show stN w + ltN g N p (wbL w) < 51 by omega) (by omega), pu_cl (by omega), show stN w + ltN g N p (wbL w) = stN w + ((wdL w).length + 1) by omega, k84, if_pos nI_0]
  · have zl : ltN g N p (wbL w) < (wbL w).length := by omega
    have hend := lt_end (wbL w) p zl
    generalize hi : ltN g N p (wbL w) = i at *
    have C := wb_c w hw i (by omega) (by omega)
    have k84 := h.wd (i := stN w + i) (by omega)
    rw [wn_at w hw i (by omega) (by omega)] at k84
    rw [Md_word_l24, gin (show stN w + i < 51 by omega) (by omega), pu_cl (by omega), k84, if_neg (nI_ne0 C.1 (by omega)), h.ke]
    by_cases y : p + i < N
    · have eg := h.kg y
      have ne : ¬ g (p + i) = nI ((wbL w).getD i 0) := fun q => hend ⟨y, q⟩
      rw [if_neg (show ¬ nI N ≤ nI (p + i) by rw [pu_le (by omega) (by omega)]; omega), h.kb, pu_add, gin (show 160 * s + (p + i) < 1280 by omega) (by omega), gin (show stN w + i < 51 by omega) (by omega), pu_cl (by omega), eg, if_neg ne]
    · rw [if_pos (show nI N ≤ nI (p + i) by rw [pu_le (by omega) (by omega)]; omega)]
theorem md_l24 (h : TxM g N s T0 σ a p T) (hp : p ≤ N) (K : Int32 → Int32 → Int32 → Int32 → Int32 → nm_St → Option (Int32 × nm_St)) {w : Nat} (hw : w < 8) (x1 x2 x3 : Int32) : Md_word_l24 K 400 x1 x2 x3 (nI p) (nI (stN w)) a = K x1 x2 x3 (nI (p + ltN g N p (wbL w))) (nI (stN w + ltN g N p (wbL w))) a := by
  have hb := wb_len w
  have l := wd_len w hw
  have le := lt_le g N (wbL w) p
  exact lp_Q (fun n' i (_ : Unit) => Md_word_l24 K n' x1 x2 x3 (nI (p + i)) (nI (stN w + i)) a) (ltN g N p (wbL w)) (fun _ _ => True) (fun r => r = K x1 x2 x3 (nI (p + ltN g N p (wbL w))) (nI (stN w + ltN g N p (wbL w))) a) (fun n' i _ hi _ ih => (md_l24s h K hw x1 x2 x3 hi).trans (ih () trivial)) (fun n' _ _ => md_l24e h hp K hw x1 x2 x3) 400 0 () (Nat.zero_le _) trivial (by omega)
theorem md_l106 (h : TxM g N s T0 σ a p T) (K : Int32 → Int32 → Int32 → nm_St → Option (Int32 × nm_St)) {w : Nat} (hw : w < 8) (x2 x3 : Int32) : Md_word_l106 K 400 (nI (stN w)) x2 x3 a = K (nI (stN w + ((wdL w).length + 1))) x2 x3 a := by
  have l := wd_len w hw
  have S := st_s w hw
  refine lp_Q (fun n' i (_ : Unit) => Md_word_l106 K n' (nI (stN w + i)) x2 x3 a) ((wdL w).length + 1) (fun _ _ => True) (fun r => r = K (nI (stN w + ((wdL w).length + 1))) x2 x3 a) (fun n' i _ hi _ ih => ?_) (fun n' _ _ => ?_) 400 0 () (Nat.zero_le _) trivial (by omega)
  · refine Eq.trans ?_ (ih () trivial)
    have C := wb_c w hw i (by omega) (by omega)
    have k84 := h.wd (i := stN w + i) (by omega)
    rw [wn_at w hw i (by omega) (by omega)] at k84
    show Md_word_l106 K (n' + 1) (nI (stN w + i)) x2 x3 a = Md_word_l106 K n' (nI (stN w + (i + 1))) x2 x3 a
    rw [Md_word_l106, gin (show stN w + i < 51 by omega) (by omega), pu_cl (by omega), k84, if_neg (nI_ne0 C.1 (by omega)), pl_1, pu_add, Nat.add_assoc]
  · have k84 := h.wd (i := stN w + ((wdL w).length + 1)) (by omega)
    rw [wn_0 w hw] at k84
    show Md_word_l106 K (n' + 1) (nI (stN w + ((wdL w).length + 1))) x2 x3 a = _
    rw [Md_word_l106, gin (show stN w + ((wdL w).length + 1) < 51 by omega) (by omega), pu_cl (by omega), k84, if_pos nI_0]
/-- one word tried -/
theorem md_l9s (h : TxM g N s T0 σ a p T) (hp : p ≤ N) (K : Int32 → nm_St → Option (Int32 × nm_St)) {w f n : Nat} (hw : w < 8) (hf : f ≤ 6) : Md_word_l9 K (n + 1) (nI (stN w)) (nI (p + f)) (nI w) a = if ltN g N p (wbL w) = (wbL w).length then some (nI w, nm_pI a 70 24 (nI (p + (wbL w).length))) else Md_word_l9 K n (nI (stN (w + 1))) (nI (p + max f (ltN g N p (wbL w)))) (nI (w + 1)) a := by
  obtain ⟨hN, hs⟩ := h.kn
  have hb := wb_len w
  have l := wd_len w hw
  have le := lt_le g N (wbL w) p
  have S := st_s w hw
  rw [Md_word_l9, pl_8, if_neg (show ¬ nI 8 ≤ nI w by rw [pu_le (by omega) (by omega)]; omega), h.kp, md_l24 h hp _ hw]
  have j105 : ∀ y0 : Int32, Md_word_j105 (Md_word_l9 K n) (nI (stN w)) (nI w) y0 a = Md_word_l9 K n (nI (stN (w + 1))) y0 (nI (w + 1)) a := fun y0 => by
    have e : stN w + ((wdL w).length + 1) + 1 = stN (w + 1) := by omega
    unfold Md_word_j105
    rw [md_l106 h _ hw, pl_1, pu_add, pu_add, e]
  unfold Md_word_j75
  rw [j105, j105, gin (show stN w + ltN g N p (wbL w) < 51 by omega) (by omega), pu_cl (by omega)]
  by_cases z : ltN g N p (wbL w) = (wbL w).length
  · have k84 := h.wd (i := stN w + ltN g N p (wbL w)) (by omega)
    rw [show stN w + ltN g N p (wbL w) = stN w + ((wdL w).length + 1) by omega, wn_0 w hw] at k84
    rw [if_pos z, show stN w + ltN g N p (wbL w) = stN w + ((wdL w).length + 1) by omega, k84, if_pos nI_0, pu_let, z]
  · rw [if_neg z]
    generalize hi : ltN g N p (wbL w) = i at *
    have C := wb_c w hw i (by omega) (by omega)
    have k84 := h.wd (i := stN w + i) (by omega)
    rw [wn_at w hw i (by omega) (by omega)] at k84
    rw [k84, if_neg (nI_ne0 C.1 (by omega))]
    by_cases y : p + i ≤ p + f
    · rw [if_pos (show nI (p + i) ≤ nI (p + f) by rw [pu_le (by omega) (by omega)]; exact y), Nat.max_eq_left (by omega)]
    · rw [if_neg (show ¬ nI (p + i) ≤ nI (p + f) by rw [pu_le (by omega) (by omega)]; exact y), Nat.max_eq_right (by omega)]
/-- the most signs of one of the first n words, blanks too -/
def mbS (g : Nat → Int32) (N p : Nat) : Nat → Nat
  | 0 => 0
  | n + 1 => max (mbS g N p n) (ltN g N p (wbL n))
theorem mb_le : ∀ n, n ≤ 8 → mbS g N p n ≤ 6 := by
  intro n
  induction n with
  | zero => intro _; exact Nat.zero_le _
  | succ n ih =>
    intro h
    have h1 := ih (by omega)
    have h2 := lt_le g N (wbL n) p
    have h4 := wb_len n
    have h3 := wd_len n (by omega)
    show max _ _ ≤ 6
    omega
theorem md_word_t (h : TxM g N s T0 σ a p T) (hp : p ≤ N) {w0 : Nat} (hw : w0 < 8) (hf : ltN g N p (wbL w0) = (wbL w0).length) : Md_word a = some (nI w0, nm_pI a 70 24 (nI (p + (wbL w0).length))) := by
  unfold Md_word
  rw [h.kp]
  simp only [pl_0, pl_1, pl_2, pl_3, pl_4, pl_5, pl_6, pl_7, pl_8, pl_9, pl_10, pl_11, pl_12, pl_13, pl_14, pl_15, pl_16, pl_17, pl_18, pl_19, pl_20, pl_21, pl_30, pl_40, pl_50, pl_51, pl_60, pl_70, pl_71, pl_99, pl_100, pl_160, pl_240, pl_256, pl_300, pl_999, pl_1000, pl_1280, pl_9999, pl_10000]
  refine lp_Q (fun n' w (_ : Unit) => Md_word_l9 _ n' (nI (stN w)) (nI (p + mbS g N p w)) (nI w) a) 8 (fun w _ => w ≤ w0) (fun r => r = some (nI w0, nm_pI a 70 24 (nI (p + (wbL w0).length)))) (fun n' w _ hw8 hle ih => ?_) (fun n' _ hle => absurd hle (by omega)) 400 0 () (by omega) (Nat.zero_le _) (by omega)
  refine (md_l9s h hp _ hw8 (mb_le w (by omega))).trans ?_
  by_cases e : w = w0
  · subst e
    exact if_pos hf
  · have ne : ¬ ltN g N p (wbL w) = (wbL w).length := fun q => by
      have q1 := (wb_full q).1
      have q2 := (wb_full hf).1
      have l1 := wd_len w hw8
      have l2 := wd_len w0 hw
      exact e (one_word (g := g) (N := N) (p := p) hw8 hw (by omega) (by omega))
    rw [if_neg ne]
    exact ih () (by omega)
theorem md_word_f (h : TxM g N s T0 σ a p T) (hp : p ≤ N) (hf : ∀ w, w < 8 → ltN g N p (wbL w) ≠ (wbL w).length) : Md_word a = some (-nI 1, nm_pI a 70 27 (nI (p + mbS g N p 8))) := by
  unfold Md_word
  rw [h.kp]
  simp only [pl_0, pl_1, pl_2, pl_3, pl_4, pl_5, pl_6, pl_7, pl_8, pl_9, pl_10, pl_11, pl_12, pl_13, pl_14, pl_15, pl_16, pl_17, pl_18, pl_19, pl_20, pl_21, pl_30, pl_40, pl_50, pl_51, pl_60, pl_70, pl_71, pl_99, pl_100, pl_160, pl_240, pl_256, pl_300, pl_999, pl_1000, pl_1280, pl_9999, pl_10000]
  refine lp_Q (fun n' w (_ : Unit) => Md_word_l9 _ n' (nI (stN w)) (nI (p + mbS g N p w)) (nI w) a) 8 (fun w _ => True) (fun r => r = some (-nI 1, nm_pI a 70 27 (nI (p + mbS g N p 8)))) (fun n' w _ hw8 _ ih => ?_) (fun n' _ _ => ?_) 400 0 () (by omega) trivial (by omega)
  · refine (md_l9s h hp _ hw8 (mb_le w (by omega))).trans ?_
    rw [if_neg (hf w hw8)]
    exact ih () trivial
  · show Md_word_l9 _ (n' + 1) (nI (stN 8)) (nI (p + mbS g N p 8)) (nI 8) a = _
    rw [Md_word_l9]
    simp (disch := omega) only [pl_0, pl_1, pl_2, pl_3, pl_4, pl_5, pl_6, pl_7, pl_8, pl_9, pl_10, pl_11, pl_12, pl_13, pl_14, pl_15, pl_16, pl_17, pl_18, pl_19, pl_20, pl_21, pl_30, pl_40, pl_50, pl_51, pl_60, pl_70, pl_71, pl_99, pl_100, pl_160, pl_240, pl_256, pl_300, pl_999, pl_1000, pl_1280, pl_9999, pl_10000, pu_neg, pu_nn, pu_le, pu_lt, pu_eq, pu_cl, pu_in, pu_g, ↓pu_let, ↓pu_bind, pu_m1, pu_add, pu_mul, Nat.not_lt_zero, if_false, if_true, Nat.zero_le, pu_d2, pu_d100, pu_em1, ↓reduceIte, Nat.reduceEqDiff, Nat.reduceLT, Nat.reduceLeDiff, Nat.reduceAdd, Nat.reduceMul, Nat.reduceSub, not_true_eq_false, not_false_eq_true, and_true, true_and, and_false, false_and, or_true, true_or, or_false, false_or, Nat.lt_irrefl, Nat.le_refl, Nat.add_zero, Bool.false_eq_true, ↓pu_gI, nd_le, nd_leT, nd_lt, nd_ltT, nd_eq, nd_eqT]
end RDW
