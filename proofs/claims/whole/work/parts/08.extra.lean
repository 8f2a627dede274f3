/-! names for values, what may be carried about, what a boolean or char is -/
section RNX
variable {α : Type} {X : nm_X} {M : nm_M} {F : nm_F} {Qf : α → nm_St → State → Prop} {L : List (Nat × Value)} {st : List Value} {pc : Nat} {σ : nm_St} {A B : Option (α × nm_St)}
theorem rn_leti {x : Int32} {f : Int32 → Option (α × nm_St)} (k : ∀ y, Rn X M F Qf L (.int y :: st) pc σ (f y)) : Rn X M F Qf L (.int x :: st) pc σ (nm_let x f) := k x
theorem rn_lets {f : nm_St → Option (α × nm_St)} (k : ∀ τ, Rn X M F Qf L st pc τ (f τ)) : Rn X M F Qf L st pc σ (nm_let σ f) := k σ
theorem rn_ldcw {i : Nat} (x : Int32) (hd : decode M.2.1 pc = .ok (.ldc_w i, 3)) (hw : Cond.constant M.1.cls i x ∈ nm_WS) (k : Rn X M F Qf L (.int x :: st) (pc + 3) σ A) : Rn X M F Qf L st pc σ A := by
  intro hF v τ hr
  obtain ⟨p, e, R, s, m, args, below, meth, c, d, cells, slots⟩ := F
  intro H locs ls hP hS hL
  exact lv_ldcw hF.1 hF.2.1 hF.2.2.2.2.1 (hF.2.2.2.2.2.1 _ hw) hd (k hF v τ hr H locs ls hP hS hL)
end RNX
def nm_bz (x : Int32) : Bool := decide (x = 0) || decide (x = 1)
theorem nm_bz_n {x : Int32} (h : nm_bz x = true) : narrow .boolean (.int x) = .int x := by
  simp only [nm_bz, Bool.or_eq_true, decide_eq_true_eq] at h
  rcases h with rfl | rfl <;> rfl
def nm_chz (x : Int32) : Bool := decide (narrow .char (.int x) = .int x)
theorem nm_chz_n {x : Int32} (h : nm_chz x = true) : narrow .char (.int x) = .int x := of_decide_eq_true h
theorem nm_rok_lt {o : Nat} (h : o < 1000) : nm_rok o = true := by
  unfold nm_rok
  simp [h]
theorem nm_rok_sh {o n : Nat} (h : nm_sh o = nm_eA n) : nm_rok o = true := nm_rok_lt (nm_sh_k h (fun q => absurd (show 0 = 99 from q) (by decide)))
theorem nm_rok_isl {o : Nat} (h : nm_isl o = true) : nm_rok o = true := nm_rok_lt (nm_sh_k (nm_i0 h) (fun q => absurd (show 4 = 99 from q) (by decide)))
theorem nm_rok_isH {o : Nat} (h : nm_isH o = true) : nm_rok o = true := nm_rok_lt (nm_sh_k (nm_h0 h) (fun q => absurd (show 7 = 99 from q) (by decide)))
theorem nm_rok_isS {o : Nat} (h : nm_isS o = true) : nm_rok o = true := by
  unfold nm_rok
  simp [h]
theorem nm_rok_by {o : Nat} (h : nm_isS o = true) : nm_rok (1000 + o) = true := by
  simp only [nm_isS, Bool.and_eq_true, decide_eq_true_eq] at h
  have h1 : 3000 ≤ 1000 + o := by omega
  have h2 : 1000 + o < 3008 := by omega
  unfold nm_rok
  simp [h1, h2]
theorem nm_mmw : (Cond.static Lib.Math.max.name ∈ nm_WS ∧ Cond.code Lib.Math.max.name Lib.Math.max.code 2 (some .int) ∈ nm_WS) ∧ (Cond.static Lib.Math.min.name ∈ nm_WS ∧ Cond.code Lib.Math.min.name Lib.Math.min.code 2 (some .int) ∈ nm_WS) ∧ Cond.initialized "java/lang/Math" ∈ nm_WS :=
  ⟨⟨List.mem_filter.mpr (by decide +kernel), List.mem_filter.mpr (by decide +kernel)⟩, ⟨List.mem_filter.mpr (by decide +kernel), List.mem_filter.mpr (by decide +kernel)⟩, List.mem_filter.mpr (by decide +kernel)⟩
section RNY
variable {α : Type} {X : nm_X} {M : nm_M} {F : nm_F} {Qf : α → nm_St → State → Prop} {L : List (Nat × Value)} {st : List Value} {pc : Nat} {σ : nm_St} {A B : Option (α × nm_St)}
theorem nm_mm_room {X : nm_X} {R : Room} {d : Nat} {st : List Value} (hd1 : 1 ≤ d) (h1 : d ≤ R.frames) (h2 : d * 64 ≤ R.locals) (hc : (st.map fun v => v.category).sum ≤ 8) : 1 ≤ R.frames ∧ ((st.map (nm_tr X)).map fun v => v.category).sum + 13 ≤ R.locals := by
  rw [nm_cats]
  omega
theorem rn_mmax {i : Nat} {x y : Int32} (hh : 1 ≤ nm_d F) (hl : Cond.methodLink M.1.cls i Lib.Math.max.name ∈ nm_WS) (hc : (st.map fun v => v.category).sum ≤ 8) (hd : decode M.2.1 pc = .ok (.invokestatic i, 3)) (k : Rn X M F Qf L (.int (if x < y then y else x) :: st) (pc + 3) σ A) : Rn X M F Qf L (.int y :: .int x :: st) pc σ A := by
  intro hF v τ hr
  obtain ⟨p, e, R, s, m, args, below, meth, c, d, cells, slots⟩ := F
  intro H locs ls hP hS hL
  have hroom := nm_mm_room (X := X) (R := R) (d := d) (st := st) hh hF.2.2.2.2.2.2.2.2.1 hF.2.2.2.2.2.2.2.2.2.1 hc
  exact va_mmax hF.1 hF.2.1 (hF.2.2.2.1.trans hL.1.symm) hF.2.2.2.2.1 (hF.2.2.2.2.2.1 _ hl) (hF.2.2.2.2.2.1 _ nm_mmw.1.1) (hF.2.2.2.2.2.1 _ nm_mmw.2.2) (hF.2.2.2.2.2.1 _ nm_mmw.1.2) hroom.1 hroom.2 hF.2.2.2.2.2.2.2.2.2.2.1 hF.2.2.2.2.2.2.2.2.2.2.2 hd (k hF v τ hr H locs ls hP hS hL)
theorem rn_mmin {i : Nat} {x y : Int32} (hh : 1 ≤ nm_d F) (hl : Cond.methodLink M.1.cls i Lib.Math.min.name ∈ nm_WS) (hc : (st.map fun v => v.category).sum ≤ 8) (hd : decode M.2.1 pc = .ok (.invokestatic i, 3)) (k : Rn X M F Qf L (.int (if y < x then y else x) :: st) (pc + 3) σ A) : Rn X M F Qf L (.int y :: .int x :: st) pc σ A := by
  intro hF v τ hr
  obtain ⟨p, e, R, s, m, args, below, meth, c, d, cells, slots⟩ := F
  intro H locs ls hP hS hL
  have hroom := nm_mm_room (X := X) (R := R) (d := d) (st := st) hh hF.2.2.2.2.2.2.2.2.1 hF.2.2.2.2.2.2.2.2.2.1 hc
  exact va_mmin hF.1 hF.2.1 (hF.2.2.2.1.trans hL.1.symm) hF.2.2.2.2.1 (hF.2.2.2.2.2.1 _ hl) (hF.2.2.2.2.2.1 _ nm_mmw.2.1.1) (hF.2.2.2.2.2.1 _ nm_mmw.2.2) (hF.2.2.2.2.2.1 _ nm_mmw.2.1.2) hroom.1 hroom.2 hF.2.2.2.2.2.2.2.2.2.2.1 hF.2.2.2.2.2.2.2.2.2.2.2 hd (k hF v τ hr H locs ls hP hS hL)
end RNY
