/-! the island's readings, on -/
theorem at_lt {T : is_T} {q i : Nat} (h : atB T q i = true) : i < T 0 6 := by
  by_cases e : i < T 0 6
  · exact e
  · rw [at_out (by omega)] at h; cases h
/-- at home, and not above what is bid -/
def goB (T : is_T) (b : Int32) (m : Nat) : Bool := atB T 0 m && !decide (b < nI (price T m))
section ISD
variable {σ : nm_St} {o : Nat} {T : is_T}
theorem wgf_s (h : IslR σ o T) (hI : IslI T) (b : Int32) (n i a : Nat) (hi : i < 8) (ha : a < 2 ^ i) : Is_whoGoesFor_l4 o (fun (e6 : Int32) (s5 : nm_St) => some (e6, s5)) (n + 1) b (nI a) (nI i) σ = Is_whoGoesFor_l4 o (fun (e6 : Int32) (s5 : nm_St) => some (e6, s5)) n b (nI (if goB T b i then a + 2 ^ i else a)) (nI (i + 1)) σ := by
  simp (disch := omega) only [Is_whoGoesFor_l4, pl_0, pl_1, pl_2, pl_3, pl_4, pl_5, pl_6, pl_7, pl_8, pl_9, pl_10, pl_11, pl_12, pl_13, pl_14, pl_15, pl_16, pl_17, pl_18, pl_19, pl_20, pl_21, pl_30, pl_40, pl_50, pl_51, pl_60, pl_70, pl_71, pl_99, pl_100, pl_160, pl_240, pl_256, pl_300, pl_999, pl_1000, pl_1280, pl_9999, pl_10000, pu_neg, pu_nn, pu_le, pu_lt, pu_eq, pu_cl, pu_in, pu_g, pu_let, pu_bind, pu_m1, pu_add, pu_mul, Nat.not_lt_zero, if_false, if_true, Nat.zero_le, pu_d2, pu_d100, is_isAt h hI hi (show 0 ≤ 3 by omega)]
  rw [if_neg (by omega)]
  by_cases e : atB T 0 i = true
  · have hm := at_lt e
    simp (disch := omega) only [e, pl_0, pl_1, pl_2, pl_3, pl_4, pl_5, pl_6, pl_7, pl_8, pl_9, pl_10, pl_11, pl_12, pl_13, pl_14, pl_15, pl_16, pl_17, pl_18, pl_19, pl_20, pl_21, pl_30, pl_40, pl_50, pl_51, pl_60, pl_70, pl_71, pl_99, pl_100, pl_160, pl_240, pl_256, pl_300, pl_999, pl_1000, pl_1280, pl_9999, pl_10000, pu_neg, pu_nn, pu_le, pu_lt, pu_eq, pu_cl, pu_in, pu_g, pu_let, pu_bind, pu_m1, pu_add, pu_mul, Nat.not_lt_zero, if_false, if_true, Nat.zero_le, pu_d2, pu_d100, is_priceOf h hI hm, pu_shl, fa_or, pu_orbit ha, goB]
    by_cases e2 : b < nI (price T i) <;> simp [e2, pu_10]
  · simp [e, goB]
theorem is_whoGoesFor (h : IslR σ o T) (hI : IslI T) (b : Int32) : Is_whoGoesFor o b σ = some (nI (bts (goB T b) 8), σ) := by
  unfold Is_whoGoesFor
  simp only [pl_0, pl_1, pl_2, pl_3, pl_4, pl_5, pl_6, pl_7, pl_8, pl_9, pl_10, pl_11, pl_12, pl_13, pl_14, pl_15, pl_16, pl_17, pl_18, pl_19, pl_20, pl_21, pl_30, pl_40, pl_50, pl_51, pl_60, pl_70, pl_71, pl_99, pl_100, pl_160, pl_240, pl_256, pl_300, pl_999, pl_1000, pl_1280, pl_9999, pl_10000]
  refine (lp_fd (fun n i (a : Nat) => Is_whoGoesFor_l4 o (fun (e6 : Int32) (s5 : nm_St) => some (e6, s5)) n b (nI a) (nI i) σ) (fun a => some (nI a, σ)) (fun i a => if goB T b i then a + 2 ^ i else a) 8 (fun i a => a = bts (goB T b) i) ?_ ?_ ?_ 0 ?_ 400 (by omega)).trans ?_
  · intro n i a hi ha
    exact wgf_s h hI b n i a hi (by rw [ha]; exact bts_lt _ i)
  · intro n a ha
    simp (disch := omega) only [Is_whoGoesFor_l4, pl_0, pl_1, pl_2, pl_3, pl_4, pl_5, pl_6, pl_7, pl_8, pl_9, pl_10, pl_11, pl_12, pl_13, pl_14, pl_15, pl_16, pl_17, pl_18, pl_19, pl_20, pl_21, pl_30, pl_40, pl_50, pl_51, pl_60, pl_70, pl_71, pl_99, pl_100, pl_160, pl_240, pl_256, pl_300, pl_999, pl_1000, pl_1280, pl_9999, pl_10000, pu_neg, pu_nn, pu_le, pu_lt, pu_eq, pu_cl, pu_in, pu_g, pu_let, pu_bind, pu_m1, pu_add, pu_mul, Nat.not_lt_zero, if_false, if_true, Nat.zero_le, pu_d2, pu_d100]
    rw [if_pos (by omega)]
  · intro i a hi ha
    rw [ha, bts_succ]
  · rfl
  · rw [fd_bts (goB T b)]
theorem is_canBeBid (h : IslR σ o T) (hI : IslI T) {m : Nat} (hm : m < 8) (b : Int32) : Is_canBeBid o (nI m) b σ = some (if atB T 0 m = true ∧ ¬ b < 0 ∧ ¬ nI (T 0 9) < b then nI 1 else nI 0, σ) := by
  unfold Is_canBeBid
  simp only [pl_0, pl_1, pl_2, pl_3, pl_4, pl_5, pl_6, pl_7, pl_8, pl_9, pl_10, pl_11, pl_12, pl_13, pl_14, pl_15, pl_16, pl_17, pl_18, pl_19, pl_20, pl_21, pl_30, pl_40, pl_50, pl_51, pl_60, pl_70, pl_71, pl_99, pl_100, pl_160, pl_240, pl_256, pl_300, pl_999, pl_1000, pl_1280, pl_9999, pl_10000]
  refine bind_of (is_isAt h hI hm (show 0 ≤ 3 by omega)) ?_
  simp only [h.q]
  by_cases e : atB T 0 m = true
  · by_cases e2 : b < nI 0
    · simp [e, e2, pu_10]
    · by_cases e3 : nI (T 0 9) < b <;> simp [e, e2, e3, pu_10]
  · simp [e]
end ISD
section ISF
variable {σ : nm_St} {o : Nat} {T : is_T}
theorem up_moveTo (h : IslR σ o T) (hI : IslI T) {m : Nat} (hm : m < T 0 6) (x : Int32) : Is_moveTo o (nI m) x σ = some ((), nm_pI σ (o + 6) m x) := by
  have hc := hI.1
  unfold Is_moveTo
  simp only [pl_0, pl_1, pl_2, pl_3, pl_4, pl_5, pl_6, pl_7, pl_8, pl_9, pl_10, pl_11, pl_12, pl_13, pl_14, pl_15, pl_16, pl_17, pl_18, pl_19, pl_20, pl_21, pl_30, pl_40, pl_50, pl_51, pl_60, pl_70, pl_71, pl_99, pl_100, pl_160, pl_240, pl_256, pl_300, pl_999, pl_1000, pl_1280, pl_9999, pl_10000]
  refine bind_of (is_isMaker_v h hI hm) ?_
  simp (disch := omega) only [pl_0, pl_1, pl_2, pl_3, pl_4, pl_5, pl_6, pl_7, pl_8, pl_9, pl_10, pl_11, pl_12, pl_13, pl_14, pl_15, pl_16, pl_17, pl_18, pl_19, pl_20, pl_21, pl_30, pl_40, pl_50, pl_51, pl_60, pl_70, pl_71, pl_99, pl_100, pl_160, pl_240, pl_256, pl_300, pl_999, pl_1000, pl_1280, pl_9999, pl_10000, pu_neg, pu_nn, pu_le, pu_lt, pu_eq, pu_cl, pu_in, pu_g, pu_let, pu_bind, pu_m1, pu_add, pu_mul, Nat.not_lt_zero, if_false, if_true, Nat.zero_le, pu_d2, pu_d100]
  rw [if_neg (by decide)]
theorem is_moveTo_n (h : IslR σ o T) (hI : IslI T) {x y : Int32} (hx : x < 0 ∨ nI (T 0 6) ≤ x) : Is_moveTo o x y σ = some ((), σ) := by
  unfold Is_moveTo
  refine bind_of (is_isMaker_n h hI hx) ?_
  simp only [pl_0, pl_1, pl_2, pl_3, pl_4, pl_5, pl_6, pl_7, pl_8, pl_9, pl_10, pl_11, pl_12, pl_13, pl_14, pl_15, pl_16, pl_17, pl_18, pl_19, pl_20, pl_21, pl_30, pl_40, pl_50, pl_51, pl_60, pl_70, pl_71, pl_99, pl_100, pl_160, pl_240, pl_256, pl_300, pl_999, pl_1000, pl_1280, pl_9999, pl_10000]
  rw [if_pos trivial]
theorem IslR.up (h : IslR σ o T) {r j v : Nat} (h1 : 1 ≤ r) (h2 : r ≤ 6) (hj : j < 8) : IslR (nm_pI σ (o + r) j (nI v)) o (nm_up T r j v) := by
  refine ⟨fun r' j' a b c => ?_, fun j' a b => ?_⟩
  · have := h.1 r' j' a b c
    by_cases e : r' = r ∧ j' = j
    · obtain ⟨rfl, rfl⟩ := e
      simp [nm_pI, nm_up]
    · have e' : ¬ (o + r' = o + r ∧ j' = j) := by omega
      simp [nm_pI, nm_up, e, e', this]
  · have := h.2 j' a b
    have e' : ¬ (o = o + r ∧ j' = j) := by omega
    have e : ¬ (0 = r ∧ j' = j) := by omega
    have e0 : r ≠ 0 := by omega
    simp [nm_pI, nm_up, e, e', this, e0, Ne.symm e0]
theorem IslR.up0 (h : IslR σ o T) {j v : Nat} (h1 : 6 ≤ j) (h2 : j < 12) : IslR (nm_pI σ o j (nI v)) o (nm_up T 0 j v) := by
  refine ⟨fun r' j' a b c => ?_, fun j' a b => ?_⟩
  · have := h.1 r' j' a b c
    have e : o + r' ≠ o := by omega
    have e0 : r' ≠ 0 := by omega
    simp only [nm_pI, nm_up_ne _ _ _ e, nm_up_ne _ _ _ e0, this]
  · have := h.2 j' a b
    by_cases e : j' = j
    · simp [nm_pI, nm_up, e]
    · simp [nm_pI, nm_up, e, this]
theorem IslR.off (h : IslR σ o T) {a b : Nat} {x : Int32} (ha : a < o ∨ o + 6 < a) : IslR (nm_pI σ a b x) o T := by
  refine ⟨fun r' j' a1 b1 c => ?_, fun j' a1 b1 => ?_⟩
  · have := h.1 r' j' a1 b1 c
    have e : o + r' ≠ a := by omega
    simp only [nm_pI, nm_up_ne _ _ _ e, this]
  · have := h.2 j' a1 b1
    have e : o ≠ a := by omega
    simp only [nm_pI, nm_up_ne _ _ _ e, this]
theorem MdR.up (h : MdR σ T) {r j v : Nat} (h1 : 1 ≤ r) (h2 : r ≤ 6) (hj : j < 8) : MdR (nm_pI σ (71 + r) j (nI v)) (nm_up T r j v) := by
  refine ⟨fun r' j' a b c => ?_, fun j' a => ?_⟩
  · have := h.1 r' j' a b c
    by_cases e : r' = r ∧ j' = j
    · obtain ⟨rfl, rfl⟩ := e
      simp [nm_pI, nm_up]
    · have e' : ¬ (71 + r' = 71 + r ∧ j' = j) := by omega
      simp [nm_pI, nm_up, e, e', this]
  · have := h.2 j' a
    have e : (70 : Nat) ≠ 71 + r := by omega
    have e0 : 0 ≠ r := by omega
    simp only [nm_pI, nm_up_ne _ _ _ e, nm_up_ne _ _ _ e0, this]
theorem MdR.up0 (h : MdR σ T) {j v : Nat} (h2 : j < 6) : MdR (nm_pI σ 70 j (nI v)) (nm_up T 0 (6 + j) v) := by
  refine ⟨fun r' j' a b c => ?_, fun j' a => ?_⟩
  · have := h.1 r' j' a b c
    have e : 71 + r' ≠ 70 := by omega
    have e0 : r' ≠ 0 := by omega
    simp only [nm_pI, nm_up_ne _ _ _ e, nm_up_ne _ _ _ e0, this]
  · have := h.2 j' a
    by_cases e : j' = j
    · simp [nm_pI, nm_up, e]
    · have e' : ¬ 6 + j' = 6 + j := by omega
      simp [nm_pI, nm_up, e, this]
end ISF
section ISG
variable {σ : nm_St} {o : Nat} {T : is_T}
/-- a draw's next seed -/
theorem is_seedN (x : Int32) : ∃ v : Nat, x = nI v := ⟨x.toBitVec.toNat, by
  apply Int32.toBitVec_inj.1
  show x.toBitVec = BitVec.ofNat 32 x.toBitVec.toNat
  simp⟩
theorem md_moved (hI : IslI T) {r j v : Nat} (hr : r = 6) (hv : v ≤ 3) : IslI (nm_up T r j v) := by
  subst hr
  refine ⟨?_, ?_, ?_, ?_, fun m hm => ?_⟩
  · rw [nm_up_ne _ _ _ (by decide)]; exact hI.1
  · rw [nm_up_ne _ _ _ (by decide)]; exact hI.2.1
  · rw [nm_up_ne _ _ _ (by decide)]; exact hI.2.2.1
  · rw [nm_up_ne _ _ _ (by decide)]; exact hI.2.2.2.1
  · have := hI.2.2.2.2 m hm
    rw [nm_up_ne _ _ _ (show 1 ≠ 6 by decide), nm_up_ne _ _ _ (show 2 ≠ 6 by decide), nm_up_ne _ _ _ (show 3 ≠ 6 by decide), nm_up_ne _ _ _ (show 4 ≠ 6 by decide), nm_up_ne _ _ _ (show 5 ≠ 6 by decide)]
    refine ⟨this.1, this.2.1, this.2.2.1, this.2.2.2.1, this.2.2.2.2.1, ?_⟩
    by_cases e : m = j
    · simp [nm_up, e, hv]
    · simp [nm_up, e, this.2.2.2.2.2]
end ISG
section ISH
variable {σ : nm_St} {o : Nat} {T : is_T}
def seedN (x : Int32) : Int32 := x * 1103515245 + 12345
def drwN (x p : Int32) : Int32 := UInt32.toInt32 (Int32.toUInt32 x >>> (Int32.toUInt32 16 &&& Int32.toUInt32 31)) - UInt32.toInt32 (Int32.toUInt32 x >>> (Int32.toUInt32 16 &&& Int32.toUInt32 31)) / p * p
theorem is_draw (p : Int32) (h0 : ¬ p ≤ 0) : Is_draw o p σ = some (drwN (seedN (σ.1 o 11)) p, nm_pI σ o 11 (seedN (σ.1 o 11))) := by
  have hne : ¬ p = 0 := fun e => h0 (by rw [e]; decide)
  unfold Is_draw nm_let nm_g drwN seedN
  simp [h0, hne, nm_pI, nm_up]
theorem md_draw (p : Int32) (h0 : ¬ p ≤ 0) : Md_draw p σ = some (drwN (seedN (σ.1 70 5)) p, nm_pI σ 70 5 (seedN (σ.1 70 5))) := by
  have hne : ¬ p = 0 := fun e => h0 (by rw [e]; decide)
  unfold Md_draw nm_let nm_g drwN seedN
  simp [hne, nm_pI, nm_up]
end ISH
