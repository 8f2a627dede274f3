/-! the model's reader: an item -/
section RDQ
variable {g : Nat → Int32} {N s : Nat} {T0 T V : is_T} {σ a b : nm_St} {p : Nat}
theorem nu_c : ∀ w, w < 8 → nuN.getD w 0 = nuC w ∧ 1 ≤ nuC w ∧ nuC w ≤ 3 := by decide
theorem TxM.nc (h : TxM g N s T0 σ a p T) {w : Nat} (hw : w < 8) : a.1 85 w = nI (nuC w) := by
  rw [h.2.2.2.1.2 w hw, (nu_c w hw).1]
/-- a number behind a blank at q, where the place is behind the blank -/
theorem md_j104 (h : TxM g N s T0 σ a (p + 1) T) (hI : IslI T) (hb : p < N ∧ g p = nI 32) {w i t : Nat} (hw : w < 8) (hi : i < nuC w) (ht : t ≤ 9999) (e86 : i ≠ 0 → a.1 86 0 = nI t) (K : Int32 → Int32 → nm_St → Option (Int32 × nm_St)) : (∀ k, rdS g N (okS T w i t) p = .inl k → ∃ τ q, Md_item_j104 K (nI w) (nI i) a = some (nI 0, τ) ∧ TxM g N s T0 σ τ q T ∧ τ.1 70 27 = nI k) ∧ ∀ v q, rdS g N (okS T w i t) p = .inr (v, q) → ∃ τ, Md_item_j104 K (nI w) (nI i) a = K (nI w) (nI (i + 1)) τ ∧ TxM g N s T0 σ τ q T ∧ τ.1 86 i = nI v ∧ ∀ j, j ≠ i → τ.1 86 j = a.1 86 j := by
  obtain ⟨hN, hs⟩ := h.kn
  have hc := (nu_c w hw).2.2
  have er : rdS g N (okS T w i t) p = if (nuG g N 4 0 (p + 1)).2 = p + 1 ∨ okS T w i t (nuG g N 4 0 (p + 1)).1 = false then .inl (p + 1) else .inr (nuG g N 4 0 (p + 1)) := if_pos hb
  rw [er]
  cases d : dgB g N (p + 1) with
  | false =>
    have kr := md_reads0 h (by omega) d
    have e0 := nu_d0 d
    rw [e0, if_pos (Or.inl rfl)]
    refine ⟨fun k hk => ?_, fun v q hk => by cases hk⟩
    injection hk with hk
    subst hk
    refine ⟨_, p + 1, ?_, (h.nu 0).wr (nI (p + 1)), pI_eq _ _ _ _⟩
    unfold Md_item_j104
    refine (bn0 kr).trans ?_
    rw [pl_0]
  | true =>
    obtain ⟨ρ, kr, t1, t2, t3⟩ := md_reads1 h (by omega) d
    have n := nu_le g N 4 0 (p + 1) (by omega)
    have ne := nu_d1 d
    have hv : (nuG g N 4 0 (p + 1)).1 ≤ 9999 := by
      have h3 := n.2.2
      have e4 : (10 : Nat) ^ 4 = 10000 := by decide
      rw [e4] at h3
      exact Nat.le_trans h3 (by decide)
    clear n
    revert t1 t2 ne hv
    generalize nuG g N 4 0 (p + 1) = z
    obtain ⟨v, q⟩ := z
    intro t1 t2 ne hv
    have t1 : TxM g N s T0 σ ρ q T := t1
    have t2 : ρ.1 70 26 = nI v := t2
    have ne : q ≠ p + 1 := ne
    have hv : v ≤ 9999 := hv
    have ks := md_isSo t1 hI hw hi hv t2 ht (fun x => by rw [t3]; exact e86 x)
    have st : Md_item_j104 K (nI w) (nI i) a = (Md_isSo (nI w) (nI i) ρ).bind fun q10 => (if q10.1 = 0 then ((Md_wrong (a.1 70 24) q10.2).bind fun q14 => (nm_g (nm_bz q14.1) (some (q14.1, q14.2)))) else (nm_g (nm_in (nI i) 3) ((nm_let (nm_pI q10.2 86 (nI i).toNatClampNeg (q10.2.1 70 26)) fun s13 => K (nI w) (nI i + (1 : Int32)) s13)))) := by
      unfold Md_item_j104
      exact bn1 kr
    rw [st]
    show (∀ k, (if q = p + 1 ∨ okS T w i t v = false then Sum.inl (p + 1) else Sum.inr (v, q)) = Sum.inl k → _) ∧ ∀ v' q', (if q = p + 1 ∨ okS T w i t v = false then Sum.inl (p + 1) else Sum.inr (v, q)) = Sum.inr (v', q') → _
    cases o : okS T w i t v with
    | false =>
      rw [o, if_neg (by decide)] at ks
      rw [if_pos (Or.inr rfl)]
      refine ⟨fun k hk => ?_, fun v q hk => by cases hk⟩
      injection hk with hk
      subst hk
      refine ⟨_, q, ?_, t1.wr (nI (p + 1)), pI_eq _ _ _ _⟩
      refine (bn0 ks).trans ?_
      dsimp only
      rw [h.kp, md_wrong, pu_bind, bz0, pu_g]
    | true =>
      rw [o, if_pos rfl] at ks
      rw [if_neg (fun x => x.elim ne (fun x => by cases x))]
      refine ⟨fun k hk => (by cases hk), fun v' q' hk => ?_⟩
      injection hk with hk
      injection hk with h1 h2
      subst h1 h2
      refine ⟨nm_pI ρ 86 i (nI v), ?_, t1.te i (nI v), pI_eq _ _ _ _, fun j hj => by rw [pI_ne _ _ (by omega), t3]⟩
      refine (bn1 ks).trans ?_
      dsimp only
      rw [gin (show i < 3 by omega) (by omega), pu_cl (by omega), t2, pu_let, pl_1, pu_add]
/-- a number behind the first -/
theorem md_l40n (h : TxM g N s T0 σ a p T) (hp : p ≤ N) (hI : IslI T) {w i t n : Nat} (hw : w < 8) (h0 : 1 ≤ i) (hi : i < nuC w) (ht : t ≤ 9999) (e86 : a.1 86 0 = nI t) (K : Int32 → nm_St → Option (Int32 × nm_St)) : (∀ k, rdS g N (okS T w i t) p = .inl k → ∃ τ q, Md_item_l40 K (n + 1) (nI w) (nI i) a = some (nI 0, τ) ∧ TxM g N s T0 σ τ q T ∧ τ.1 70 27 = nI k) ∧ ∀ v q, rdS g N (okS T w i t) p = .inr (v, q) → ∃ τ, Md_item_l40 K (n + 1) (nI w) (nI i) a = Md_item_l40 K n (nI w) (nI (i + 1)) τ ∧ TxM g N s T0 σ τ q T ∧ τ.1 86 i = nI v ∧ ∀ j, j ≠ i → τ.1 86 j = a.1 86 j := by
  obtain ⟨hN, hs⟩ := h.kn
  have hc := (nu_c w hw).2.2
  have n1 : ¬ nI (nuC w) ≤ nI i := by rw [pu_le (by omega) (by omega)]; omega
  have n2 : ¬ nI i ≤ 0 := by rw [pl_0, pu_le (by omega) (by omega)]; omega
  have st : Md_item_l40 K (n + 1) (nI w) (nI i) a = if nI N ≤ nI p then some (nI 0, nm_pI a 70 27 (nI p)) else (nm_g (nm_in (nI (160 * s + p)) 1280) (if Int64.toInt32 (a.2 82 (nI (160 * s + p)).toNatClampNeg) = nI 32 then Md_item_j104 (Md_item_l40 K n) (nI w) (nI i) (nm_pI a 70 24 (nI (p + 1))) else some (nI 0, nm_pI a 70 27 (nI p)))) := by
    rw [Md_item_l40, gin (show w < 8 from hw) (by omega), pu_cl (by omega), h.nc hw, if_neg n1, if_neg n2, h.ke, h.kp, md_wrong, pu_bind, bz0, pu_g, h.kb, pu_add, pl_32, pl_1, pu_add, pu_let]
  by_cases z : p < N ∧ g p = nI 32
  · have t2 := h.to (p + 1)
    have J := md_j104 t2 hI z hw hi ht (fun _ => by rw [pI_ne _ _ (by omega)]; exact e86) (Md_item_l40 K n)
    rw [if_neg (show ¬ nI N ≤ nI p by rw [pu_le (by omega) (by omega)]; omega), gin (show 160 * s + p < 1280 by omega) (by omega), pu_cl (by omega), h.kg z.1, if_pos z.2] at st
    rw [st]
    refine ⟨J.1, fun v q hq => ?_⟩
    obtain ⟨τ, j1, j2, j3, j4⟩ := J.2 v q hq
    exact ⟨τ, j1, j2, j3, fun j hj => by rw [j4 j hj, pI_ne _ _ (by omega)]⟩
  · have er : rdS g N (okS T w i t) p = .inl p := if_neg z
    have st2 : Md_item_l40 K (n + 1) (nI w) (nI i) a = some (nI 0, nm_pI a 70 27 (nI p)) := by
      rw [st]
      by_cases y : p < N
      · rw [if_neg (show ¬ nI N ≤ nI p by rw [pu_le (by omega) (by omega)]; omega), gin (show 160 * s + p < 1280 by omega) (by omega), pu_cl (by omega), h.kg y, if_neg (fun x => z ⟨y, x⟩)]
      · rw [if_pos (show nI N ≤ nI p by rw [pu_le (by omega) (by omega)]; omega)]
    rw [er]
    refine ⟨fun k hk => ?_, fun v q hk => by cases hk⟩
    injection hk with hk
    subst hk
    exact ⟨_, p, st2, h.wr (nI p), pI_eq _ _ _ _⟩
/-- the first number -/
theorem md_l400 (h : TxM g N s T0 σ a (p + 1) T) (hI : IslI T) (hb : p < N ∧ g p = nI 32) {w n : Nat} (hw : w < 8) (K : Int32 → nm_St → Option (Int32 × nm_St)) : (∀ k, rdS g N (okS T w 0 0) p = .inl k → ∃ τ q, Md_item_l40 K (n + 1) (nI w) (nI 0) a = some (nI 0, τ) ∧ TxM g N s T0 σ τ q T ∧ τ.1 70 27 = nI k) ∧ ∀ v q, rdS g N (okS T w 0 0) p = .inr (v, q) → ∃ τ, Md_item_l40 K (n + 1) (nI w) (nI 0) a = Md_item_l40 K n (nI w) (nI 1) τ ∧ TxM g N s T0 σ τ q T ∧ τ.1 86 0 = nI v := by
  have hc := (nu_c w hw).2
  have n1 : ¬ nI (nuC w) ≤ nI 0 := by rw [pu_le (by omega) (by omega)]; omega
  have n2 : nI 0 ≤ 0 := by rw [pl_0, pu_le (by omega) (by omega)]; exact Nat.le_refl _
  have st : Md_item_l40 K (n + 1) (nI w) (nI 0) a = Md_item_j104 (Md_item_l40 K n) (nI w) (nI 0) a := by
    rw [Md_item_l40, gin (show w < 8 from hw) (by omega), pu_cl (by omega), h.nc hw, if_neg n1, if_pos n2]
  have J := md_j104 h hI hb hw (i := 0) (t := 0) (by omega) (by omega) (fun x => absurd rfl x) (Md_item_l40 K n)
  rw [st]
  refine ⟨J.1, fun v q hq => ?_⟩
  obtain ⟨τ, j1, j2, j3, j4⟩ := J.2 v q hq
  exact ⟨τ, j1, j2, j3⟩
theorem md_l40x (h : TxM g N s T0 σ a p T) {w n : Nat} (hw : w < 8) (K : Int32 → nm_St → Option (Int32 × nm_St)) : Md_item_l40 K (n + 1) (nI w) (nI (nuC w)) a = K (nI w) a := by
  have hc := (nu_c w hw).2
  rw [Md_item_l40, gin (show w < 8 from hw) (by omega), pu_cl (by omega), h.nc hw, if_pos (show nI (nuC w) ≤ nI (nuC w) by rw [pu_le (by omega) (by omega)]; exact Nat.le_refl _)]
/-- what comes of the numbers told -/
def mdK (e25 : Int32) (s24 : nm_St) : Option (Int32 × nm_St) :=
      (if e25 = (0 : Int32) then
        (nm_g (nm_in (0 : Int32) 3) (
        (nm_let (nm_pI s24 70 1 (s24.1 86 (0 : Int32).toNatClampNeg)) fun s28 =>
        some ((1 : Int32), s28))))
      else
      (if e25 = (1 : Int32) then
        (nm_g (nm_in (0 : Int32) 3) (
        (nm_g (nm_in (1 : Int32) 3) (
        (nm_g (nm_in (2 : Int32) 3) (
        ((Md_addsMaker (s24.1 86 (0 : Int32).toNatClampNeg) (s24.1 86 (1 : Int32).toNatClampNeg) (s24.1 86 (2 : Int32).toNatClampNeg) s24).bind fun q32 =>
        some ((1 : Int32), q32.2))))))))
      else
      (if e25 = (2 : Int32) then
        (nm_g (nm_in (0 : Int32) 3) (
        (nm_g (nm_in (s24.1 86 (0 : Int32).toNatClampNeg) 8) (
        (nm_g (nm_in (1 : Int32) 3) (
        (nm_g (nm_in (s24.1 86 (0 : Int32).toNatClampNeg) 8) (
        (nm_let (nm_pI s24 75 (s24.1 86 (0 : Int32).toNatClampNeg).toNatClampNeg ((s24.1 75 (s24.1 86 (0 : Int32).toNatClampNeg).toNatClampNeg) ||| ((1 : Int32) <<< ((s24.1 86 (1 : Int32).toNatClampNeg) &&& 31)))) fun s37 =>
        some ((1 : Int32), s37))))))))))
      else
      (if e25 = (3 : Int32) then
        (nm_g (nm_in (0 : Int32) 3) (
        (nm_g (nm_in (1 : Int32) 3) (
        ((Md_ties (s24.1 86 (0 : Int32).toNatClampNeg) (s24.1 86 (1 : Int32).toNatClampNeg) (1 : Int32) s24).bind fun q40 =>
        some ((1 : Int32), q40.2))))))
      else
      (if e25 = (4 : Int32) then
        (nm_g (nm_in (0 : Int32) 3) (
        (nm_let (nm_pI s24 70 2 (s24.1 86 (0 : Int32).toNatClampNeg)) fun s42 =>
        some ((1 : Int32), s42))))
      else
      (if e25 = (5 : Int32) then
        (nm_g (nm_in (0 : Int32) 3) (
        (nm_let (nm_pI s24 70 3 (s24.1 86 (0 : Int32).toNatClampNeg)) fun s44 =>
        some ((1 : Int32), s44))))
      else
      (if e25 = (6 : Int32) then
        (nm_g (nm_in (0 : Int32) 3) (
        (nm_g (nm_in (s24.1 86 (0 : Int32).toNatClampNeg) 8) (
        (nm_let (nm_pI s24 77 (s24.1 86 (0 : Int32).toNatClampNeg).toNatClampNeg (1 : Int32)) fun s47 =>
        some ((1 : Int32), s47))))))
      else
        (nm_g (nm_in (0 : Int32) 3) (
        (nm_g (nm_in (s24.1 86 (0 : Int32).toNatClampNeg) 8) (
        (nm_let (nm_pI s24 77 (s24.1 86 (0 : Int32).toNatClampNeg).toNatClampNeg (3 : Int32)) fun s50 =>
        some ((1 : Int32), s50)))))))))))))
/-- an item read, or not -/
def RM (g : Nat → Int32) (N s : Nat) (T0 : is_T) (σ : nm_St) (T : is_T) (r : Sum Nat (Nat × is_T)) (res : Option (Int32 × nm_St)) : Prop := (∀ k, r = .inl k → ∃ τ q, res = some (nI 0, τ) ∧ TxM g N s T0 σ τ q T ∧ τ.1 70 27 = nI k) ∧ ∀ q V, r = .inr (q, V) → ∃ τ, res = some (nI 1, τ) ∧ TxM g N s T0 σ τ q V
theorem md_do (h : TxM g N s T0 σ a p T) (hI : IslI T) {w v b d : Nat} (hw : w < 8) (h8 : w = 1 → T 0 6 < 8) (hv : v ≤ 9999) (e0 : a.1 86 0 = nI v) (e1 : 2 ≤ nuC w → a.1 86 1 = nI b) (e2 : nuC w = 3 → a.1 86 2 = nI d) (o0 : okS T w 0 0 v = true) (o1 : 2 ≤ nuC w → okS T w 1 v b = true) : ∃ τ, mdK (nI w) a = some (nI 1, τ) ∧ TxM g N s T0 σ τ p (doS T w v b d) := by
  have hM := h.2.2.1
  have h6 := hI.1
  have h7 := hI.2.1
  have u := MdU.rf hM
  rcases sh_ix hw with rfl | rfl | rfl | rfl | rfl | rfl | rfl | rfl
  · refine ⟨_, ?_, h.isl (u.up0 (j := 1) v (by omega))⟩
    unfold mdK
    simp (disch := omega) only [pl_0, pl_1, pl_2, pl_3, pl_4, pl_5, pl_6, pl_7, pl_8, pl_9, pl_10, pl_11, pl_12, pl_13, pl_14, pl_15, pl_16, pl_17, pl_18, pl_19, pl_20, pl_21, pl_30, pl_40, pl_50, pl_51, pl_60, pl_70, pl_71, pl_99, pl_100, pl_160, pl_240, pl_256, pl_300, pl_999, pl_1000, pl_1280, pl_9999, pl_10000, pu_neg, pu_nn, pu_le, pu_lt, pu_eq, pu_cl, pu_in, pu_g, ↓pu_let, ↓pu_bind, pu_m1, pu_add, pu_mul, Nat.not_lt_zero, if_false, if_true, Nat.zero_le, pu_d2, pu_d100, pu_em1, ↓reduceIte, Nat.reduceEqDiff, Nat.reduceLT, Nat.reduceLeDiff, Nat.reduceAdd, Nat.reduceMul, Nat.reduceSub, not_true_eq_false, not_false_eq_true, and_true, true_and, and_false, false_and, or_true, true_or, or_false, false_or, Nat.lt_irrefl, Nat.le_refl, Nat.add_zero, Bool.false_eq_true, ↓pu_gI, nd_le, nd_leT, nd_lt, nd_ltT, nd_eq, nd_eqT, e0]
  · obtain ⟨τ, k, u2⟩ := md_addsMaker hM hI v b d (h8 rfl)
    refine ⟨τ, ?_, h.isl u2⟩
    unfold mdK
    simp (disch := omega) only [pl_0, pl_1, pl_2, pl_3, pl_4, pl_5, pl_6, pl_7, pl_8, pl_9, pl_10, pl_11, pl_12, pl_13, pl_14, pl_15, pl_16, pl_17, pl_18, pl_19, pl_20, pl_21, pl_30, pl_40, pl_50, pl_51, pl_60, pl_70, pl_71, pl_99, pl_100, pl_160, pl_240, pl_256, pl_300, pl_999, pl_1000, pl_1280, pl_9999, pl_10000, pu_neg, pu_nn, pu_le, pu_lt, pu_eq, pu_cl, pu_in, pu_g, ↓pu_let, ↓pu_bind, pu_m1, pu_add, pu_mul, Nat.not_lt_zero, if_false, if_true, Nat.zero_le, pu_d2, pu_d100, pu_em1, ↓reduceIte, Nat.reduceEqDiff, Nat.reduceLT, Nat.reduceLeDiff, Nat.reduceAdd, Nat.reduceMul, Nat.reduceSub, not_true_eq_false, not_false_eq_true, and_true, true_and, and_false, false_and, or_true, true_or, or_false, false_or, Nat.lt_irrefl, Nat.le_refl, Nat.add_zero, Bool.false_eq_true, ↓pu_gI, nd_le, nd_leT, nd_lt, nd_ltT, nd_eq, nd_eqT, e0, e1 (by decide), e2 (by decide), k]
  · have hm : v < T 0 6 := of_decide_eq_true (show decide (v < T 0 6) = true from o0)
    have hb : b < T 0 7 := of_decide_eq_true (show decide (b < T 0 7) = true from o1 (by decide))
    have k75 := hM.a4 (show v < 8 by omega)
    refine ⟨nm_pI a 75 v (nI (T 4 v ||| 2 ^ b)), ?_, h.isl (u.up (r := 4) (T 4 v ||| 2 ^ b) (by omega) (by omega) (by omega))⟩
    unfold mdK
    simp (disch := omega) only [pl_0, pl_1, pl_2, pl_3, pl_4, pl_5, pl_6, pl_7, pl_8, pl_9, pl_10, pl_11, pl_12, pl_13, pl_14, pl_15, pl_16, pl_17, pl_18, pl_19, pl_20, pl_21, pl_30, pl_40, pl_50, pl_51, pl_60, pl_70, pl_71, pl_99, pl_100, pl_160, pl_240, pl_256, pl_300, pl_999, pl_1000, pl_1280, pl_9999, pl_10000, pu_neg, pu_nn, pu_le, pu_lt, pu_eq, pu_cl, pu_in, pu_g, ↓pu_let, ↓pu_bind, pu_m1, pu_add, pu_mul, Nat.not_lt_zero, if_false, if_true, Nat.zero_le, pu_d2, pu_d100, pu_em1, ↓reduceIte, Nat.reduceEqDiff, Nat.reduceLT, Nat.reduceLeDiff, Nat.reduceAdd, Nat.reduceMul, Nat.reduceSub, not_true_eq_false, not_false_eq_true, and_true, true_and, and_false, false_and, or_true, true_or, or_false, false_or, Nat.lt_irrefl, Nat.le_refl, Nat.add_zero, Bool.false_eq_true, ↓pu_gI, nd_le, nd_leT, nd_lt, nd_ltT, nd_eq, nd_eqT, e0, e1 (by decide), k75, pu_shl, fa_or]
  · have k1 : (decide (v < T 0 6) && (decide ((0 : Nat) = 0) || decide (v ≠ 0))) = true := o0
    have k2 : (decide (b < T 0 6) && (decide ((1 : Nat) = 0) || decide (b ≠ v))) = true := o1 (by decide)
    simp only [Bool.and_eq_true, decide_eq_true_eq] at k1 k2
    obtain ⟨τ, k, u2⟩ := md_ties hM hI (m := v) (l := b) (by omega) (by omega) (nI 1)
    rw [dec1] at u2
    refine ⟨τ, ?_, h.isl u2⟩
    unfold mdK
    simp (disch := omega) only [pl_0, pl_1, pl_2, pl_3, pl_4, pl_5, pl_6, pl_7, pl_8, pl_9, pl_10, pl_11, pl_12, pl_13, pl_14, pl_15, pl_16, pl_17, pl_18, pl_19, pl_20, pl_21, pl_30, pl_40, pl_50, pl_51, pl_60, pl_70, pl_71, pl_99, pl_100, pl_160, pl_240, pl_256, pl_300, pl_999, pl_1000, pl_1280, pl_9999, pl_10000, pu_neg, pu_nn, pu_le, pu_lt, pu_eq, pu_cl, pu_in, pu_g, ↓pu_let, ↓pu_bind, pu_m1, pu_add, pu_mul, Nat.not_lt_zero, if_false, if_true, Nat.zero_le, pu_d2, pu_d100, pu_em1, ↓reduceIte, Nat.reduceEqDiff, Nat.reduceLT, Nat.reduceLeDiff, Nat.reduceAdd, Nat.reduceMul, Nat.reduceSub, not_true_eq_false, not_false_eq_true, and_true, true_and, and_false, false_and, or_true, true_or, or_false, false_or, Nat.lt_irrefl, Nat.le_refl, Nat.add_zero, Bool.false_eq_true, ↓pu_gI, nd_le, nd_leT, nd_lt, nd_ltT, nd_eq, nd_eqT, e0, e1 (by decide), k]
  · refine ⟨_, ?_, h.isl (u.up0 (j := 2) v (by omega))⟩
    unfold mdK
    simp (disch := omega) only [pl_0, pl_1, pl_2, pl_3, pl_4, pl_5, pl_6, pl_7, pl_8, pl_9, pl_10, pl_11, pl_12, pl_13, pl_14, pl_15, pl_16, pl_17, pl_18, pl_19, pl_20, pl_21, pl_30, pl_40, pl_50, pl_51, pl_60, pl_70, pl_71, pl_99, pl_100, pl_160, pl_240, pl_256, pl_300, pl_999, pl_1000, pl_1280, pl_9999, pl_10000, pu_neg, pu_nn, pu_le, pu_lt, pu_eq, pu_cl, pu_in, pu_g, ↓pu_let, ↓pu_bind, pu_m1, pu_add, pu_mul, Nat.not_lt_zero, if_false, if_true, Nat.zero_le, pu_d2, pu_d100, pu_em1, ↓reduceIte, Nat.reduceEqDiff, Nat.reduceLT, Nat.reduceLeDiff, Nat.reduceAdd, Nat.reduceMul, Nat.reduceSub, not_true_eq_false, not_false_eq_true, and_true, true_and, and_false, false_and, or_true, true_or, or_false, false_or, Nat.lt_irrefl, Nat.le_refl, Nat.add_zero, Bool.false_eq_true, ↓pu_gI, nd_le, nd_leT, nd_lt, nd_ltT, nd_eq, nd_eqT, e0]
  · refine ⟨_, ?_, h.isl (u.up0 (j := 3) v (by omega))⟩
    unfold mdK
    simp (disch := omega) only [pl_0, pl_1, pl_2, pl_3, pl_4, pl_5, pl_6, pl_7, pl_8, pl_9, pl_10, pl_11, pl_12, pl_13, pl_14, pl_15, pl_16, pl_17, pl_18, pl_19, pl_20, pl_21, pl_30, pl_40, pl_50, pl_51, pl_60, pl_70, pl_71, pl_99, pl_100, pl_160, pl_240, pl_256, pl_300, pl_999, pl_1000, pl_1280, pl_9999, pl_10000, pu_neg, pu_nn, pu_le, pu_lt, pu_eq, pu_cl, pu_in, pu_g, ↓pu_let, ↓pu_bind, pu_m1, pu_add, pu_mul, Nat.not_lt_zero, if_false, if_true, Nat.zero_le, pu_d2, pu_d100, pu_em1, ↓reduceIte, Nat.reduceEqDiff, Nat.reduceLT, Nat.reduceLeDiff, Nat.reduceAdd, Nat.reduceMul, Nat.reduceSub, not_true_eq_false, not_false_eq_true, and_true, true_and, and_false, false_and, or_true, true_or, or_false, false_or, Nat.lt_irrefl, Nat.le_refl, Nat.add_zero, Bool.false_eq_true, ↓pu_gI, nd_le, nd_leT, nd_lt, nd_ltT, nd_eq, nd_eqT, e0]
  · have hm : (decide (v < T 0 6) && decide (T 6 v = 0)) = true := o0
    simp only [Bool.and_eq_true, decide_eq_true_eq] at hm
    refine ⟨_, ?_, h.isl (u.up (r := 6) (j := v) 1 (by omega) (by omega) (by omega))⟩
    unfold mdK
    simp (disch := omega) only [pl_0, pl_1, pl_2, pl_3, pl_4, pl_5, pl_6, pl_7, pl_8, pl_9, pl_10, pl_11, pl_12, pl_13, pl_14, pl_15, pl_16, pl_17, pl_18, pl_19, pl_20, pl_21, pl_30, pl_40, pl_50, pl_51, pl_60, pl_70, pl_71, pl_99, pl_100, pl_160, pl_240, pl_256, pl_300, pl_999, pl_1000, pl_1280, pl_9999, pl_10000, pu_neg, pu_nn, pu_le, pu_lt, pu_eq, pu_cl, pu_in, pu_g, ↓pu_let, ↓pu_bind, pu_m1, pu_add, pu_mul, Nat.not_lt_zero, if_false, if_true, Nat.zero_le, pu_d2, pu_d100, pu_em1, ↓reduceIte, Nat.reduceEqDiff, Nat.reduceLT, Nat.reduceLeDiff, Nat.reduceAdd, Nat.reduceMul, Nat.reduceSub, not_true_eq_false, not_false_eq_true, and_true, true_and, and_false, false_and, or_true, true_or, or_false, false_or, Nat.lt_irrefl, Nat.le_refl, Nat.add_zero, Bool.false_eq_true, ↓pu_gI, nd_le, nd_leT, nd_lt, nd_ltT, nd_eq, nd_eqT, e0]
  · have hm : (decide (v < T 0 6) && decide (T 6 v ≠ 3)) = true := o0
    simp only [Bool.and_eq_true, decide_eq_true_eq] at hm
    refine ⟨_, ?_, h.isl (u.up (r := 6) (j := v) 3 (by omega) (by omega) (by omega))⟩
    unfold mdK
    simp (disch := omega) only [pl_0, pl_1, pl_2, pl_3, pl_4, pl_5, pl_6, pl_7, pl_8, pl_9, pl_10, pl_11, pl_12, pl_13, pl_14, pl_15, pl_16, pl_17, pl_18, pl_19, pl_20, pl_21, pl_30, pl_40, pl_50, pl_51, pl_60, pl_70, pl_71, pl_99, pl_100, pl_160, pl_240, pl_256, pl_300, pl_999, pl_1000, pl_1280, pl_9999, pl_10000, pu_neg, pu_nn, pu_le, pu_lt, pu_eq, pu_cl, pu_in, pu_g, ↓pu_let, ↓pu_bind, pu_m1, pu_add, pu_mul, Nat.not_lt_zero, if_false, if_true, Nat.zero_le, pu_d2, pu_d100, pu_em1, ↓reduceIte, Nat.reduceEqDiff, Nat.reduceLT, Nat.reduceLeDiff, Nat.reduceAdd, Nat.reduceMul, Nat.reduceSub, not_true_eq_false, not_false_eq_true, and_true, true_and, and_false, false_and, or_true, true_or, or_false, false_or, Nat.lt_irrefl, Nat.le_refl, Nat.add_zero, Bool.false_eq_true, ↓pu_gI, nd_le, nd_leT, nd_lt, nd_ltT, nd_eq, nd_eqT, e0]
/-- all numbers of a word, the first behind a blank at p -/
theorem md_nums (h : TxM g N s T0 σ a (p + 1) T) (hI : IslI T) (hb : p < N ∧ g p = nI 32) {w n : Nat} (hw : w < 8) (h8 : w = 1 → T 0 6 < 8) : RM g N s T0 σ T (nsS g N T w p) (Md_item_l40 mdK (n + 4) (nI w) (nI 0) a) := by
  have hc := nu_c w hw
  have R := md_l400 h hI hb hw (n := n + 3) mdK
  cases e : rdS g N (okS T w 0 0) p with
  | inl k =>
    obtain ⟨τ, q, k1, k2, k3⟩ := R.1 k e
    refine ⟨fun k' hk => ?_, fun q V hk => ?_⟩
    · rw [ns_l e] at hk
      injection hk with hk
      subst hk
      exact ⟨τ, q, k1, k2, k3⟩
    · rw [ns_l e] at hk
      cases hk
  | inr vq =>
    obtain ⟨v, q⟩ := vq
    have r := rd_r (Nat.le_of_lt hb.1) e
    obtain ⟨τ, k1, t, k3⟩ := R.2 v q e
    rw [k1]
    by_cases c1 : nuC w = 1
    · have kx := md_l40x t hw (n := n + 2) mdK
      rw [c1] at kx
      obtain ⟨ρ, kd, t2⟩ := md_do t hI hw h8 r.2.2.2 k3 (fun x => by omega) (fun x => by omega) r.2.2.1 (fun x => by omega) (b := 0) (d := 0)
      refine ⟨fun k' hk => ?_, fun q' V hk => ?_⟩
      · rw [ns_1 c1 e] at hk
        cases hk
      · rw [ns_1 c1 e] at hk
        injection hk with hk
        injection hk with e1 e2
        subst e1 e2
        exact ⟨ρ, kx.trans kd, t2⟩
    · have R2 := md_l40n t r.2.1 hI hw (i := 1) (t := v) (n := n + 2) (by omega) (by omega) r.2.2.2 k3 mdK
      cases d : rdS g N (okS T w 1 v) q with
      | inl k =>
        obtain ⟨τ2, q2, m1, m2, m3⟩ := R2.1 k d
        refine ⟨fun k' hk => ?_, fun q V hk => ?_⟩
        · rw [ns_2l c1 e d] at hk
          injection hk with hk
          subst hk
          exact ⟨τ2, q2, m1, m2, m3⟩
        · rw [ns_2l c1 e d] at hk
          cases hk
      | inr bq =>
        obtain ⟨b, q2⟩ := bq
        have r2 := rd_r r.2.1 d
        obtain ⟨τ2, m1, t2, m3, m4⟩ := R2.2 b q2 d
        have m0 : τ2.1 86 0 = nI v := (m4 0 (by omega)).trans k3
        rw [m1]
        by_cases c2 : nuC w = 2
        · have kx := md_l40x t2 hw (n := n + 1) mdK
          rw [c2] at kx
          obtain ⟨ρ, kd, t3⟩ := md_do t2 hI hw h8 r.2.2.2 m0 (fun _ => m3) (fun x => by omega) r.2.2.1 (fun _ => r2.2.2.1) (d := 0)
          refine ⟨fun k' hk => ?_, fun q' V hk => ?_⟩
          · rw [ns_2 c2 e d] at hk
            cases hk
          · rw [ns_2 c2 e d] at hk
            injection hk with hk
            injection hk with e1 e2
            subst e1 e2
            exact ⟨ρ, kx.trans kd, t3⟩
        · have c3 : nuC w = 3 := by omega
          have R3 := md_l40n t2 r2.2.1 hI hw (i := 2) (t := v) (n := n + 1) (by omega) (by omega) r.2.2.2 m0 mdK
          cases f : rdS g N (okS T w 2 v) q2 with
          | inl k =>
            obtain ⟨τ3, q3, l1, l2, l3⟩ := R3.1 k f
            refine ⟨fun k' hk => ?_, fun q V hk => ?_⟩
            · rw [ns_3l c3 e d f] at hk
              injection hk with hk
              subst hk
              exact ⟨τ3, q3, l1, l2, l3⟩
            · rw [ns_3l c3 e d f] at hk
              cases hk
          | inr cq =>
            obtain ⟨c, q3⟩ := cq
            have r3 := rd_r r2.2.1 f
            obtain ⟨τ3, l1, t3, l3, l4⟩ := R3.2 c q3 f
            rw [l1]
            have kx := md_l40x t3 hw (n := n) mdK
            rw [c3] at kx
            obtain ⟨ρ, kd, t4⟩ := md_do t3 hI hw h8 r.2.2.2 ((l4 0 (by omega)).trans m0) (fun _ => (l4 1 (by omega)).trans m3) (fun _ => l3) r.2.2.1 (fun _ => r2.2.2.1)
            refine ⟨fun k' hk => ?_, fun q' V hk => ?_⟩
            · rw [ns_3 c3 e d f] at hk
              cases hk
            · rw [ns_3 c3 e d f] at hk
              injection hk with hk
              injection hk with e1 e2
              subst e1 e2
              exact ⟨ρ, kx.trans kd, t4⟩
end RDQ
