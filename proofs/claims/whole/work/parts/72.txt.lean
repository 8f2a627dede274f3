/-! texts: the island told stays one -/
section DOK
variable {g : Nat → Int32} {N : Nat} {T : is_T}
theorem do_ok (hI : IslI T) {w a b c : Nat} (hw : w < 8) (h8 : w = 1 → T 0 6 < 8) (ha : a ≤ 9999) (h1 : okS T w 0 0 a = true) (h2 : 2 ≤ nuC w → okS T w 1 a b = true) (h3 : nuC w = 3 → okS T w 2 a c = true) : IslI (doS T w a b c) ∧ T 0 6 ≤ doS T w a b c 0 6 := by
  have i6 := hI.1
  have i7 := hI.2.1
  rcases sh_ix hw with rfl | rfl | rfl | rfl | rfl | rfl | rfl | rfl
  · have h : (decide (T 0 7 ≤ a) && decide (a ≤ 8)) = true := h1
    simp only [Bool.and_eq_true, decide_eq_true_eq] at h
    refine ⟨hI.up (r := 0) (j := 7) (v := a) (by unfold upOK; omega), Nat.le_of_eq rfl⟩
  · have k1 : a ≤ 6 := of_decide_eq_true (show decide (a ≤ 6) = true from h1)
    have k2 : b ≤ 9 := of_decide_eq_true (show decide (b ≤ 9) = true from h2 (by decide))
    have k3 : c ≤ 99 := of_decide_eq_true (show decide (c ≤ 99) = true from h3 rfl)
    refine ⟨add_I hI k1 k2 k3 (h8 rfl), ?_⟩
    show T 0 6 ≤ addT T a b c 0 6
    rw [add_6]; omega
  · have k1 : a < T 0 6 := of_decide_eq_true (show decide (a < T 0 6) = true from h1)
    have k2 : b < T 0 7 := of_decide_eq_true (show decide (b < T 0 7) = true from h2 (by decide))
    refine ⟨lea_I hI (b := true) (show a < 8 by omega) (show b < 8 by omega), ?_⟩
    show T 0 6 ≤ leaT T a b true 0 6
    rw [lea_6]; omega
  · have k1 : (decide (a < T 0 6) && (decide ((0 : Nat) = 0) || decide (a ≠ 0))) = true := h1
    have k2 : (decide (b < T 0 6) && (decide ((1 : Nat) = 0) || decide (b ≠ a))) = true := h2 (by decide)
    simp only [Bool.and_eq_true, decide_eq_true_eq] at k1 k2
    refine ⟨joi_I hI (b := true) (show a < 8 by omega) (show b < 8 by omega), ?_⟩
    show T 0 6 ≤ joiT T a b true 0 6
    rw [joi_6]; omega
  · have k1 : a ≤ 99 := of_decide_eq_true (show decide (a ≤ 99) = true from h1)
    exact ⟨hI.up (r := 0) (j := 8) (v := a) (by unfold upOK; omega), Nat.le_of_eq rfl⟩
  · exact ⟨hI.up (r := 0) (j := 9) (v := a) (by unfold upOK; omega), Nat.le_of_eq rfl⟩
  · exact ⟨hI.up (r := 6) (j := a) (v := 1) (by unfold upOK; omega), Nat.le_of_eq rfl⟩
  · exact ⟨hI.up (r := 6) (j := a) (v := 3) (by unfold upOK; omega), Nat.le_of_eq rfl⟩
theorem ns_r3 (hI : IslI T) {w q q' : Nat} {V : is_T} (hw : w < 8) (h8 : w = 1 → T 0 6 < 8) (hq : q ≤ N) (h : nsS g N T w q = .inr (q', V)) : q < q' ∧ q' ≤ N ∧ IslI V ∧ T 0 6 ≤ V 0 6 := by
  have n3 : nuC w = 1 ∨ nuC w = 2 ∨ nuC w = 3 := by
    unfold nuC
    repeat' split
    all_goals omega
  unfold nsS at h
  cases e : rdS g N (okS T w 0 0) q with
  | inl j => rw [e] at h; cases h
  | inr vq =>
    obtain ⟨v, q1⟩ := vq
    have r := rd_r hq e
    rw [e] at h
    by_cases n1 : nuC w = 1
    · simp only [if_pos n1] at h
      injection h with h
      injection h with hA hB
      subst hA hB
      have d := do_ok hI (b := 0) (c := 0) hw h8 r.2.2.2 r.2.2.1 (fun x => by omega) (fun x => by omega)
      exact ⟨by omega, r.2.1, d.1, d.2⟩
    · simp only [if_neg n1] at h
      cases d : rdS g N (okS T w 1 v) q1 with
      | inl j => rw [d] at h; cases h
      | inr vq =>
        obtain ⟨b, q2⟩ := vq
        have r2 := rd_r r.2.1 d
        rw [d] at h
        by_cases n2 : nuC w = 2
        · simp only [if_pos n2] at h
          injection h with h
          injection h with hA hB
          subst hA hB
          have d := do_ok hI (c := 0) hw h8 r.2.2.2 r.2.2.1 (fun _ => r2.2.2.1) (fun x => by omega)
          exact ⟨by omega, r2.2.1, d.1, d.2⟩
        · simp only [if_neg n2] at h
          cases d3 : rdS g N (okS T w 2 v) q2 with
          | inl j => rw [d3] at h; cases h
          | inr vq =>
            obtain ⟨c, q3⟩ := vq
            have r3 := rd_r r2.2.1 d3
            rw [d3] at h
            injection h with h
            injection h with hA hB
            subst hA hB
            have d := do_ok hI hw h8 r.2.2.2 r.2.2.1 (fun _ => r2.2.2.1) (fun _ => r3.2.2.1)
            exact ⟨by omega, r3.2.1, d.1, d.2⟩
theorem it_l3 {p k : Nat} (hp : p ≤ N) (h : itS g N T p = .inl k) : k ≤ N + 5 := by
  have hm := mo_le g N p 8 (by omega)
  cases e : wdS g N p 8 with
  | zero =>
    rw [it_0 e] at h
    injection h with h
    omega
  | succ w =>
    have ww := wdS_w 8 w e
    have he := wd_end ww.1 ww.2
    by_cases y : w = 1 ∧ T 0 6 = 8
    · rw [it_f (by omega) y.2] at h
      injection h with h
      omega
    · rw [it_n e (fun x z => y ⟨x, z⟩)] at h
      have := ns_l3 he h
      omega
theorem it_r3 (hI : IslI T) {p q : Nat} {V : is_T} (hp : p ≤ N) (h : itS g N T p = .inr (q, V)) : p < q ∧ q ≤ N ∧ IslI V ∧ T 0 6 ≤ V 0 6 := by
  have h6 := hI.1
  cases e : wdS g N p 8 with
  | zero => rw [it_0 e] at h; cases h
  | succ w =>
    have ww := wdS_w 8 w e
    have he := wd_end ww.1 ww.2
    by_cases y : w = 1 ∧ T 0 6 = 8
    · rw [it_f (by omega) y.2] at h; cases h
    · rw [it_n e (fun x z => y ⟨x, z⟩)] at h
      have := ns_r3 hI ww.1 (fun x => by have : ¬ T 0 6 = 8 := fun z => y ⟨x, z⟩; omega) he h
      exact ⟨by omega, this.2⟩
end DOK
