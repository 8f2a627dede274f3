/-! rows of fields, arrays, statics, texts, calls, ends -/
theorem nm_nd0 : ∀ w ∈ wsX00, w ∈ nm_WS := fun w h => List.mem_filter.mpr ((by decide +kernel : ∀ w ∈ wsX00, w ∈ lw_tbl ∧ goodWord w = true) w h)
theorem nm_nd1 : ∀ w ∈ wsX10, w ∈ nm_WS := fun w h => List.mem_filter.mpr ((by decide +kernel : ∀ w ∈ wsX10, w ∈ lw_tbl ∧ goodWord w = true) w h)
theorem nm_nd2 : ∀ w ∈ wsX20, w ∈ nm_WS := fun w h => List.mem_filter.mpr ((by decide +kernel : ∀ w ∈ wsX20, w ∈ lw_tbl ∧ goodWord w = true) w h)
theorem nm_nd3 : ∀ w ∈ wsX30, w ∈ nm_WS := fun w h => List.mem_filter.mpr ((by decide +kernel : ∀ w ∈ wsX30, w ∈ lw_tbl ∧ goodWord w = true) w h)
theorem nm_nd4 : ∀ w ∈ wsX40, w ∈ nm_WS := fun w h => List.mem_filter.mpr ((by decide +kernel : ∀ w ∈ wsX40, w ∈ lw_tbl ∧ goodWord w = true) w h)
theorem nm_nd5 : ∀ w ∈ wsX50, w ∈ nm_WS := fun w h => List.mem_filter.mpr ((by decide +kernel : ∀ w ∈ wsX50, w ∈ lw_tbl ∧ goodWord w = true) w h)
theorem nm_nd6 : ∀ w ∈ wsX60, w ∈ nm_WS := fun w h => List.mem_filter.mpr ((by decide +kernel : ∀ w ∈ wsX60, w ∈ lw_tbl ∧ goodWord w = true) w h)
theorem nm_nd7 : ∀ w ∈ wsX70, w ∈ nm_WS := fun w h => List.mem_filter.mpr ((by decide +kernel : ∀ w ∈ wsX70, w ∈ lw_tbl ∧ goodWord w = true) w h)
section RNS
variable {α : Type} {X : nm_X} {M : nm_M} {F : nm_F} {Qf : α → nm_St → State → Prop} {L : List (Nat × Value)} {st : List Value} {pc : Nat} {σ : nm_St} {A B : Option (α × nm_St)}
theorem rn_getI {C : String} {T : u_T} {N t j i o : Nat} {f : Nat → Option (Option Nat)} (hsh : nm_sh o = (t + 3, N, f)) (ht : t ≠ 96) (hc : vwCl[t]? = some (C, T, N)) (hin : ∀ w ∈ u_ws C T N, w ∈ nm_WS) (hj : j < N) (hf : f j = none) (hw : Cond.fieldLink M.1.cls i (T j).1 (T j).2.1 (T j).2.2.1 ∈ nm_WS) (hd : decode M.2.1 pc = .ok (.getfield i, 3)) (k : Rn X M F Qf L (.int (σ.1 o j) :: st) (pc + 3) σ A) : Rn X M F Qf L (.ref o :: st) pc σ A := by
  intro hF v τ hr
  obtain ⟨p, e, R, s, m, args, below, meth, c, d, cells, slots⟩ := F
  intro H locs ls hP hS hL
  have hk := nm_sh_lt hsh (by omega)
  rw [List.map_cons, nm_tr_ref (show o < 1000 by unfold nm_N at hk; omega)]
  exact va_get hF.1 hF.2.1 hF.2.2.2.2.2.1 hin hF.2.2.2.2.1 hF.2.2.2.2.2.2.1.1 hP o (by rw [nm_wl_at X σ hk, nm_en_O X σ hsh]) hc j hj (hF.2.2.2.2.2.1 _ hw) (fun _ h => h) (nm_fs_i X σ hj hf) hd (k hF v τ hr H locs ls hP hS hL)
theorem rn_getIN {C host : String} {T : u_T} {N t j i o : Nat} {f : Nat → Option (Option Nat)} (hsh : nm_sh o = (t + 3, N, f)) (ht : t ≠ 96) (hc : vwCl[t]? = some (C, T, N)) (hin : ∀ w ∈ u_ws C T N, w ∈ nm_WS) (hj : j < N) (hf : f j = none) (hw : Cond.fieldLinkNest M.1.cls i (T j).1 (T j).2.1 (T j).2.2.1 host ∈ nm_NW) (hd : decode M.2.1 pc = .ok (.getfield i, 3)) (k : Rn X M F Qf L (.int (σ.1 o j) :: st) (pc + 3) σ A) : Rn X M F Qf L (.ref o :: st) pc σ A := by
  intro hF v τ hr
  obtain ⟨p, e, R, s, m, args, below, meth, c, d, cells, slots⟩ := F
  intro H locs ls hP hS hL
  have hk := nm_sh_lt hsh (by omega)
  rw [List.map_cons, nm_tr_ref (show o < 1000 by unfold nm_N at hk; omega)]
  exact va_getN hF.1 hF.2.1 hF.2.2.2.2.2.1 hin hF.2.2.2.2.1 hF.2.2.2.2.2.2.1.1 hP o (by rw [nm_wl_at X σ hk, nm_en_O X σ hsh]) hc j hj (va_Nw.use rfl (hF.2.2.2.2.2.2.1.2.1.2 _ hw)) (fun _ h => h) (nm_fs_i X σ hj hf) hd (k hF v τ hr H locs ls hP hS hL)
theorem rn_getR {C : String} {T : u_T} {N t j i o r : Nat} {f : Nat → Option (Option Nat)} (hsh : nm_sh o = (t + 3, N, f)) (ht : t ≠ 96) (hc : vwCl[t]? = some (C, T, N)) (hin : ∀ w ∈ u_ws C T N, w ∈ nm_WS) (hj : j < N) (hf : f j = some (some r)) (hr0 : r < 1000) (hw : Cond.fieldLink M.1.cls i (T j).1 (T j).2.1 (T j).2.2.1 ∈ nm_WS) (hd : decode M.2.1 pc = .ok (.getfield i, 3)) (k : Rn X M F Qf L (.ref r :: st) (pc + 3) σ A) : Rn X M F Qf L (.ref o :: st) pc σ A := by
  intro hF v τ hr
  obtain ⟨p, e, R, s, m, args, below, meth, c, d, cells, slots⟩ := F
  intro H locs ls hP hS hL
  have hk := nm_sh_lt hsh (by omega)
  have k2 := k hF v τ hr H locs ls hP hS hL
  rw [List.map_cons, nm_tr_ref hr0] at k2
  rw [List.map_cons, nm_tr_ref (show o < 1000 by unfold nm_N at hk; omega)]
  exact va_get hF.1 hF.2.1 hF.2.2.2.2.2.1 hin hF.2.2.2.2.1 hF.2.2.2.2.2.2.1.1 hP o (by rw [nm_wl_at X σ hk, nm_en_O X σ hsh]) hc j hj (hF.2.2.2.2.2.1 _ hw) (fun _ h => h) (nm_fs_r X σ hj hf) hd k2
theorem rn_getRN {C host : String} {T : u_T} {N t j i o r : Nat} {f : Nat → Option (Option Nat)} (hsh : nm_sh o = (t + 3, N, f)) (ht : t ≠ 96) (hc : vwCl[t]? = some (C, T, N)) (hin : ∀ w ∈ u_ws C T N, w ∈ nm_WS) (hj : j < N) (hf : f j = some (some r)) (hr0 : r < 1000) (hw : Cond.fieldLinkNest M.1.cls i (T j).1 (T j).2.1 (T j).2.2.1 host ∈ nm_NW) (hd : decode M.2.1 pc = .ok (.getfield i, 3)) (k : Rn X M F Qf L (.ref r :: st) (pc + 3) σ A) : Rn X M F Qf L (.ref o :: st) pc σ A := by
  intro hF v τ hr
  obtain ⟨p, e, R, s, m, args, below, meth, c, d, cells, slots⟩ := F
  intro H locs ls hP hS hL
  have hk := nm_sh_lt hsh (by omega)
  have k2 := k hF v τ hr H locs ls hP hS hL
  rw [List.map_cons, nm_tr_ref hr0] at k2
  rw [List.map_cons, nm_tr_ref (show o < 1000 by unfold nm_N at hk; omega)]
  exact va_getN hF.1 hF.2.1 hF.2.2.2.2.2.1 hin hF.2.2.2.2.1 hF.2.2.2.2.2.2.1.1 hP o (by rw [nm_wl_at X σ hk, nm_en_O X σ hsh]) hc j hj (va_Nw.use rfl (hF.2.2.2.2.2.2.1.2.1.2 _ hw)) (fun _ h => h) (nm_fs_r X σ hj hf) hd k2
theorem rn_putI {C : String} {T : u_T} {N t j i o : Nat} {f : Nat → Option (Option Nat)} {ty : FieldType} {x : Int32} (ty0 : Nat → FieldType) (hty : ∀ k, k < N → parseFieldDescriptor (T k).2.2.1 = some (ty0 k)) (hnm : ∀ a, a < N → ∀ b, b < N → a ≠ b → (T a).2.1 ≠ (T b).2.1) (hsh : nm_sh o = (t + 3, N, f)) (ht : t ≠ 96) (hc : vwCl[t]? = some (C, T, N)) (hin : ∀ w ∈ u_ws C T N, w ∈ nm_WS) (hj : j < N) (hf : f j = none) (hfin : (T j).2.2.2 = false) (hpd : parseFieldDescriptor (T j).2.2.1 = some ty) (hn : narrow ty (.int x) = .int x) (hfit : fits ty (.int x) = true) (hw : Cond.fieldLink M.1.cls i (T j).1 (T j).2.1 (T j).2.2.1 ∈ nm_WS) (hd : decode M.2.1 pc = .ok (.putfield i, 3)) (k : Rn X M F Qf L st (pc + 3) (nm_pI σ o j x) A) : Rn X M F Qf L (.int x :: .ref o :: st) pc σ A := by
  intro hF v τ hr
  obtain ⟨p, e, R, s, m, args, below, meth, c, d, cells, slots⟩ := F
  intro H locs ls hP hS hL
  have hk := nm_sh_lt hsh (by omega)
  rw [List.map_cons, List.map_cons, nm_tr_ref (show o < 1000 by unfold nm_N at hk; omega)]
  refine va_put hF.1 hF.2.1 hF.2.2.2.2.2.1 hin ty0 hty hnm hF.2.2.2.2.1 hF.2.2.2.2.2.2.1.1 hP (hF.2.2.2.2.2.2.1.2.1.1 σ) hS o (by rw [nm_wl_at X σ hk, nm_en_O X σ hsh]) hc j hj (hF.2.2.2.2.2.1 _ hw) (fun _ h => h) hfin hpd hn hfit (by rw [nm_fs_len]; exact hj) hd (fun H1 locs1 hP1 _ hS1 => ?_)
  have hP2 : va_P (nm_D X) vwCl (nm_wl X (nm_pI σ o j x)) H1 := by
    rw [← nm_put_O X σ hsh ht hf x]
    exact hP1
  exact k hF v τ hr H1 locs1 ls hP2 hS1 hL
theorem rn_putIN {C host : String} {T : u_T} {N t j i o : Nat} {f : Nat → Option (Option Nat)} {ty : FieldType} {x : Int32} (ty0 : Nat → FieldType) (hty : ∀ k, k < N → parseFieldDescriptor (T k).2.2.1 = some (ty0 k)) (hnm : ∀ a, a < N → ∀ b, b < N → a ≠ b → (T a).2.1 ≠ (T b).2.1) (hsh : nm_sh o = (t + 3, N, f)) (ht : t ≠ 96) (hc : vwCl[t]? = some (C, T, N)) (hin : ∀ w ∈ u_ws C T N, w ∈ nm_WS) (hj : j < N) (hf : f j = none) (hfin : (T j).2.2.2 = false) (hpd : parseFieldDescriptor (T j).2.2.1 = some ty) (hn : narrow ty (.int x) = .int x) (hfit : fits ty (.int x) = true) (hw : Cond.fieldLinkNest M.1.cls i (T j).1 (T j).2.1 (T j).2.2.1 host ∈ nm_NW) (hd : decode M.2.1 pc = .ok (.putfield i, 3)) (k : Rn X M F Qf L st (pc + 3) (nm_pI σ o j x) A) : Rn X M F Qf L (.int x :: .ref o :: st) pc σ A := by
  intro hF v τ hr
  obtain ⟨p, e, R, s, m, args, below, meth, c, d, cells, slots⟩ := F
  intro H locs ls hP hS hL
  have hk := nm_sh_lt hsh (by omega)
  rw [List.map_cons, List.map_cons, nm_tr_ref (show o < 1000 by unfold nm_N at hk; omega)]
  refine va_putN hF.1 hF.2.1 hF.2.2.2.2.2.1 hin ty0 hty hnm hF.2.2.2.2.1 hF.2.2.2.2.2.2.1.1 hP (hF.2.2.2.2.2.2.1.2.1.1 σ) hS o (by rw [nm_wl_at X σ hk, nm_en_O X σ hsh]) hc j hj (va_Nw.use rfl (hF.2.2.2.2.2.2.1.2.1.2 _ hw)) (fun _ h => h) hfin hpd hn hfit (by rw [nm_fs_len]; exact hj) hd (fun H1 locs1 hP1 _ hS1 => ?_)
  have hP2 : va_P (nm_D X) vwCl (nm_wl X (nm_pI σ o j x)) H1 := by
    rw [← nm_put_O X σ hsh ht hf x]
    exact hP1
  exact k hF v τ hr H1 locs1 ls hP2 hS1 hL
theorem rn_iaload {n q : Nat} {i : Int32} (hsh : nm_sh q = nm_eA n) (hd : decode M.2.1 pc = .ok (.iaload, 1)) (k : nm_in i n = true → Rn X M F Qf L (.int (σ.1 q i.toNatClampNeg) :: st) (pc + 1) σ A) : Rn X M F Qf L (.int i :: .ref q :: st) pc σ (nm_g (nm_in i n) A) := by
  refine rn_guard (fun hg => ?_)
  intro hF v τ hr
  obtain ⟨p, e, R, s, m, args, below, meth, c, d, cells, slots⟩ := F
  intro H locs ls hP hS hL
  have hk := nm_sh_lt hsh (by omega)
  rw [List.map_cons, List.map_cons, nm_tr_ref (show q < 1000 by unfold nm_N at hk; omega)]
  exact va_iald hF.1 hF.2.1 hF.2.2.2.2.2.2.1.1 hP q 0 (by rw [nm_wl_at X σ hk, nm_en_A X σ hsh]) rfl (nm_in_vp hg) hd (k hg hF v τ hr H locs ls hP hS hL)
theorem rn_laload {n q : Nat} {i : Int32} (hsh : nm_sh q = nm_eJ n) (hd : decode M.2.1 pc = .ok (.laload, 1)) (k : nm_in i n = true → Rn X M F Qf L (.long (σ.2 q i.toNatClampNeg) :: st) (pc + 1) σ A) : Rn X M F Qf L (.int i :: .ref q :: st) pc σ (nm_g (nm_in i n) A) := by
  refine rn_guard (fun hg => ?_)
  intro hF v τ hr
  obtain ⟨p, e, R, s, m, args, below, meth, c, d, cells, slots⟩ := F
  intro H locs ls hP hS hL
  have hk := nm_sh_lt hsh (by omega)
  rw [List.map_cons, List.map_cons, nm_tr_ref (show q < 1000 by unfold nm_N at hk; omega)]
  exact va_lald hF.1 hF.2.1 hF.2.2.2.2.2.2.1.1 hP q 1 (by rw [nm_wl_at X σ hk, nm_en_J X σ hsh]) rfl (nm_in_vp hg) hd (k hg hF v τ hr H locs ls hP hS hL)
theorem rn_iastore {n q : Nat} {i x : Int32} (hsh : nm_sh q = nm_eA n) (hd : decode M.2.1 pc = .ok (.iastore, 1)) (k : nm_in i n = true → Rn X M F Qf L st (pc + 1) (nm_pI σ q i.toNatClampNeg x) A) : Rn X M F Qf L (.int x :: .int i :: .ref q :: st) pc σ (nm_g (nm_in i n) A) := by
  refine rn_guard (fun hg => ?_)
  intro hF v τ hr
  obtain ⟨p, e, R, s, m, args, below, meth, c, d, cells, slots⟩ := F
  intro H locs ls hP hS hL
  have hk := nm_sh_lt hsh (by omega)
  rw [List.map_cons, List.map_cons, List.map_cons, nm_tr_ref (show q < 1000 by unfold nm_N at hk; omega)]
  refine va_iast hF.1 hF.2.1 hF.2.2.2.2.2.2.1.1 hP (hF.2.2.2.2.2.2.1.2.1.1 σ) hS q 0 (by rw [nm_wl_at X σ hk, nm_en_A X σ hsh]) rfl (nm_in_vp hg) hd (fun H1 locs1 hP1 _ hS1 => ?_)
  rw [nm_put_A X σ hsh] at hP1
  exact k hg hF v τ hr H1 locs1 ls hP1 hS1 hL
theorem rn_lastore {n q : Nat} {i : Int32} {x : Int64} (hsh : nm_sh q = nm_eJ n) (hd : decode M.2.1 pc = .ok (.lastore, 1)) (k : nm_in i n = true → Rn X M F Qf L st (pc + 1) (nm_pJ σ q i.toNatClampNeg x) A) : Rn X M F Qf L (.long x :: .int i :: .ref q :: st) pc σ (nm_g (nm_in i n) A) := by
  refine rn_guard (fun hg => ?_)
  intro hF v τ hr
  obtain ⟨p, e, R, s, m, args, below, meth, c, d, cells, slots⟩ := F
  intro H locs ls hP hS hL
  have hk := nm_sh_lt hsh (by omega)
  rw [List.map_cons, List.map_cons, List.map_cons, nm_tr_ref (show q < 1000 by unfold nm_N at hk; omega)]
  refine va_last hF.1 hF.2.1 hF.2.2.2.2.2.2.1.1 hP (hF.2.2.2.2.2.2.1.2.1.1 σ) hS q 1 (by rw [nm_wl_at X σ hk, nm_en_J X σ hsh]) rfl (nm_in_vp hg) hd (fun H1 locs1 hP1 _ hS1 => ?_)
  rw [nm_put_J X σ hsh] at hP1
  exact k hg hF v τ hr H1 locs1 ls hP1 hS1 hL
/-- the Shelf at a place -/
def nm_sf (i : Int32) : Nat := 54 + 2 * i.toNatClampNeg
theorem nm_sf_isH {i : Int32} (h : nm_in i 8 = true) : nm_isH (nm_sf i) = true := by
  have h2 : i.toNatClampNeg < 8 := Nat.not_le.mp fun q => nm_in_vp h (Or.inr q)
  unfold nm_sf
  generalize i.toNatClampNeg = n at h2
  rcases (show n = 0 ∨ n = 1 ∨ n = 2 ∨ n = 3 ∨ n = 4 ∨ n = 5 ∨ n = 6 ∨ n = 7 by omega) with rfl | rfl | rfl | rfl | rfl | rfl | rfl | rfl <;> rfl
theorem nm_en_Q (X : nm_X) (σ : nm_St) : nm_en X σ 1 = .inl (nm_cQ X, (8, .inr (.inr (.inr (.inr (fun j => some (nm_ad X (54 + 2 * j)))))))) := rfl
theorem rn_aaload {i : Int32} (hd : decode M.2.1 pc = .ok (.aaload, 1)) (k : nm_in i 8 = true → Rn X M F Qf L (.ref (nm_sf i) :: st) (pc + 1) σ A) : Rn X M F Qf L (.int i :: .ref 1 :: st) pc σ (nm_g (nm_in i 8) A) := by
  refine rn_guard (fun hg => ?_)
  intro hF v τ hr
  obtain ⟨p, e, R, s, m, args, below, meth, c, d, cells, slots⟩ := F
  intro H locs ls hP hS hL
  have h2 : i.toNatClampNeg < 8 := Nat.not_le.mp fun q => nm_in_vp hg (Or.inr q)
  have k2 := k hg hF v τ hr H locs ls hP hS hL
  rw [List.map_cons, nm_tr_ref (show nm_sf i < 1000 by unfold nm_sf; omega)] at k2
  rw [List.map_cons, List.map_cons, nm_tr_ref (show 1 < 1000 by omega)]
  exact va_aldq (f := fun j => some (nm_ad X (54 + 2 * j))) hF.1 hF.2.1 hF.2.2.2.2.2.2.1.1 hP 1 2 (by rw [nm_wl_at X σ (show 1 < nm_N by unfold nm_N; omega), nm_en_Q]) rfl (nm_in_vp hg) hd k2
/-- static arrays -/
theorem rn_getT (j : Nat) {i : Nat} (hj : j < 5) (hw : Cond.fieldLink M.1.cls i (nm_tabC j) (nm_tabF j) "[I" ∈ nm_WS) (hd : decode M.2.1 pc = .ok (.getstatic i, 3)) (k : Rn X M F Qf L (.ref (1000 + j) :: st) (pc + 3) σ A) : Rn X M F Qf L st pc σ A := by
  intro hF v τ hr
  obtain ⟨p, e, R, s, m, args, below, meth, c, d, cells, slots⟩ := F
  intro H locs ls hP hS hL
  obtain ⟨t, g1, g2, g3⟩ := hF.2.2.2.2.2.2.1.2.2.1 j hj
  have k2 := k hF v τ hr H locs ls hP hS hL
  have e2 : nm_tr X (.ref (1000 + j)) = .ref t := by
    show (if 1000 + j < 1000 then _ else va_rf (nm_sv X (1000 + j))) = _
    rw [if_neg (by omega), g1]
    rfl
  rw [List.map_cons, e2] at k2
  exact va_gets hF.1 hF.2.1 g2 hS hF.2.2.2.2.1 (hF.2.2.2.2.2.1 _ hw) (fun _ h => h) hd k2
theorem rn_getTN (j : Nat) {i : Nat} {host : String} (hj : j < 5) (hw : Cond.fieldLinkNest M.1.cls i (nm_tabC j) (nm_tabF j) "[I" host ∈ nm_NW) (hd : decode M.2.1 pc = .ok (.getstatic i, 3)) (k : Rn X M F Qf L (.ref (1000 + j) :: st) (pc + 3) σ A) : Rn X M F Qf L st pc σ A := by
  intro hF v τ hr
  obtain ⟨p, e, R, s, m, args, below, meth, c, d, cells, slots⟩ := F
  intro H locs ls hP hS hL
  obtain ⟨t, g1, g2, g3⟩ := hF.2.2.2.2.2.2.1.2.2.1 j hj
  have k2 := k hF v τ hr H locs ls hP hS hL
  have e2 : nm_tr X (.ref (1000 + j)) = .ref t := by
    show (if 1000 + j < 1000 then _ else va_rf (nm_sv X (1000 + j))) = _
    rw [if_neg (by omega), g1]
    rfl
  rw [List.map_cons, e2] at k2
  exact va_getsN hF.1 hF.2.1 g2 hS hF.2.2.2.2.1 (va_Nw.use rfl (hF.2.2.2.2.2.2.1.2.1.2 _ hw)) (fun _ h => h) hd k2
theorem rn_ialoadT (j : Nat) {i : Int32} (hj : j < 5) (hd : decode M.2.1 pc = .ok (.iaload, 1)) (k : nm_in i (nm_tabN j) = true → Rn X M F Qf L (.int ((nm_tab j).getD i.toNatClampNeg 0) :: st) (pc + 1) σ A) : Rn X M F Qf L (.int i :: .ref (1000 + j) :: st) pc σ (nm_g (nm_in i (nm_tabN j)) A) := by
  refine rn_guard (fun hg => ?_)
  intro hF v τ hr
  obtain ⟨p, e, R, s, m, args, below, meth, c, d, cells, slots⟩ := F
  intro H locs ls hP hS hL
  obtain ⟨t, g1, g2, g3⟩ := hF.2.2.2.2.2.2.1.2.2.1 j hj
  have e2 : nm_tr X (.ref (1000 + j)) = .ref t := by
    show (if 1000 + j < 1000 then _ else va_rf (nm_sv X (1000 + j))) = _
    rw [if_neg (by omega), g1]
    rfl
  rw [List.map_cons, List.map_cons, e2]
  exact va_ti hF.1 hF.2.1 g3 hS (nm_in_vp hg) rfl hd (k hg hF v τ hr H locs ls hP hS hL)
theorem rn_alenT (j : Nat) (hj : j < 5) (hd : decode M.2.1 pc = .ok (.arraylength, 1)) (k : Rn X M F Qf L (.int (Int32.ofNat (nm_tabN j)) :: st) (pc + 1) σ A) : Rn X M F Qf L (.ref (1000 + j) :: st) pc σ A := by
  intro hF v τ hr
  obtain ⟨p, e, R, s, m, args, below, meth, c, d, cells, slots⟩ := F
  intro H locs ls hP hS hL
  obtain ⟨t, g1, g2, g3⟩ := hF.2.2.2.2.2.2.1.2.2.1 j hj
  have e2 : nm_tr X (.ref (1000 + j)) = .ref t := by
    show (if 1000 + j < 1000 then _ else va_rf (nm_sv X (1000 + j))) = _
    rw [if_neg (by omega), g1]
    rfl
  rw [List.map_cons, e2]
  exact va_tlen hF.1 hF.2.1 g3 hS rfl hd (k hF v τ hr H locs ls hP hS hL)
/-- the script -/
theorem nm_tr_scr {s : State} (h : nm_SF X s) : ∃ b, nm_tr X (.ref 4000) = .ref b ∧ va_X b (nm_L X) (nm_xs X) s s.heap ∧ b < s.heap.size ∧ ¬ nm_A X b := by
  obtain ⟨-, -, -, -, b, h6, h7, h8, h9⟩ := h
  refine ⟨b, ?_, h7, h8, h9⟩
  rw [nm_tr_sv (by omega), h6]
  rfl
theorem rn_sld {i : Int32} (hd : decode M.2.1 pc = .ok (.iaload, 1)) (k : nm_in i (nm_L X) = true → Rn X M F Qf L (.int (nm_xs X i.toNatClampNeg) :: st) (pc + 1) σ A) : Rn X M F Qf L (.int i :: .ref 4000 :: st) pc σ (nm_g (nm_in i (nm_L X)) A) := by
  refine rn_guard (fun hg => ?_)
  intro hF v τ hr
  obtain ⟨p, e, R, s, m, args, below, meth, c, d, cells, slots⟩ := F
  intro H locs ls hP hS hL
  obtain ⟨b, e2, g1, g2, g3⟩ := nm_tr_scr hF.2.2.2.2.2.2.1.2.2
  rw [List.map_cons, List.map_cons, e2]
  exact va_sld hF.1 hF.2.1 g1 g2 g3 hS (nm_in_vp hg) hd (k hg hF v τ hr H locs ls hP hS hL)
theorem rn_slen (hd : decode M.2.1 pc = .ok (.arraylength, 1)) (k : Rn X M F Qf L (.int (Int32.ofNat (nm_L X)) :: st) (pc + 1) σ A) : Rn X M F Qf L (.ref 4000 :: st) pc σ A := by
  intro hF v τ hr
  obtain ⟨p, e, R, s, m, args, below, meth, c, d, cells, slots⟩ := F
  intro H locs ls hP hS hL
  obtain ⟨b, e2, g1, g2, g3⟩ := nm_tr_scr hF.2.2.2.2.2.2.1.2.2
  rw [List.map_cons, e2]
  exact va_slen hF.1 hF.2.1 g1 g2 g3 hS hd (k hF v τ hr H locs ls hP hS hL)
/-- the texts -/
theorem rn_ldcS (i : Nat) (hi : i < 8) (hc : M.1.cls = nm_RT) (hd : decode M.2.1 pc = .ok (.ldc (nm_six i), 2)) (k : Rn X M F Qf L (.ref (2000 + i) :: st) (pc + 2) σ A) : Rn X M F Qf L st pc σ A := by
  intro hF v τ hr
  obtain ⟨p, e, R, s, m, args, below, meth, c, d, cells, slots⟩ := F
  intro H locs ls hP hS hL
  obtain ⟨adK, adV, g, -⟩ := hF.2.2.2.2.2.2.1.2.2.2.1
  have k2 := k hF v τ hr H locs ls hP hS hL
  have e2 : nm_tr X (.ref (2000 + i)) = .ref (adK i) := by
    show (if 2000 + i < 1000 then _ else va_rf (nm_sv X (2000 + i))) = _
    rw [if_neg (by omega), (g i hi).1]
    rfl
  rw [List.map_cons, e2] at k2
  exact va_ldcS hF.1 hF.2.1 hF.2.2.2.2.1 (by rw [hc]; exact (g i hi).2.2) hd k2
theorem rn_strC (o i : Nat) (ho : nm_isS o = true) (hw : Cond.fieldLink M.1.cls i "java/lang/String" "coder" "B" ∈ nm_WS) (hd : decode M.2.1 pc = .ok (.getfield i, 3)) (k : Rn X M F Qf L (.int 0 :: st) (pc + 3) σ A) : Rn X M F Qf L (.ref o :: st) pc σ A := by
  obtain ⟨q, hq, rfl⟩ := nm_isS_i ho
  intro hF v τ hr
  obtain ⟨p, e, R, s, m, args, below, meth, c, d, cells, slots⟩ := F
  intro H locs ls hP hS hL
  obtain ⟨adK, adV, g, g2⟩ := hF.2.2.2.2.2.2.1.2.2.2.1
  have e2 : nm_tr X (.ref (2000 + q)) = .ref (adK q) := by
    show (if 2000 + q < 1000 then _ else va_rf (nm_sv X (2000 + q))) = _
    rw [if_neg (by omega), (g q hq).1]
    rfl
  rw [List.map_cons, e2]
  exact vk_getf hF.1 hF.2.1 (g2.1 q hq).2.1 hS hF.2.2.2.2.1 (hF.2.2.2.2.2.1 _ hw) (fun _ h => h) hd (k hF v τ hr H locs ls hP hS hL)
theorem rn_strV (o i : Nat) (ho : nm_isS o = true) (hw : Cond.fieldLink M.1.cls i "java/lang/String" "value" "[B" ∈ nm_WS) (hd : decode M.2.1 pc = .ok (.getfield i, 3)) (k : Rn X M F Qf L (.ref (1000 + o) :: st) (pc + 3) σ A) : Rn X M F Qf L (.ref o :: st) pc σ A := by
  obtain ⟨q, hq, rfl⟩ := nm_isS_i ho
  intro hF v τ hr
  obtain ⟨p, e, R, s, m, args, below, meth, c, d, cells, slots⟩ := F
  intro H locs ls hP hS hL
  obtain ⟨adK, adV, g, g2⟩ := hF.2.2.2.2.2.2.1.2.2.2.1
  have e2 : nm_tr X (.ref (2000 + q)) = .ref (adK q) := by
    show (if 2000 + q < 1000 then _ else va_rf (nm_sv X (2000 + q))) = _
    rw [if_neg (by omega), (g q hq).1]
    rfl
  have e3 : nm_tr X (.ref (1000 + (2000 + q))) = .ref (adV q) := by
    show (if 1000 + (2000 + q) < 1000 then _ else va_rf (nm_sv X (1000 + (2000 + q)))) = _
    rw [if_neg (by omega), show 1000 + (2000 + q) = 3000 + q by omega, (g q hq).2.1]
    rfl
  have k2 := k hF v τ hr H locs ls hP hS hL
  rw [List.map_cons, e3] at k2
  rw [List.map_cons, e2]
  exact vk_getf hF.1 hF.2.1 (g2.1 q hq).2.2.1 hS hF.2.2.2.2.1 (hF.2.2.2.2.2.1 _ hw) (fun _ h => h) hd k2
theorem nm_tr_byt {s : State} (h : nm_SF X s) {o : Nat} (ho : nm_isS o = true) : ∃ t, nm_tr X (.ref (1000 + o)) = .ref t ∧ va_T .byte t (nm_slen.getD (o - 2000) 0) (fun j => .int ((nm_sbyt.getD (o - 2000) []).getD j 0)) (nm_A X) s s.heap := by
  obtain ⟨q, hq, rfl⟩ := nm_isS_i ho
  obtain ⟨-, ⟨adK, adV, g, g2⟩, -⟩ := h
  refine ⟨adV q, ?_, ?_⟩
  · show (if 1000 + (2000 + q) < 1000 then _ else va_rf (nm_sv X (1000 + (2000 + q)))) = _
    rw [if_neg (by omega), show 1000 + (2000 + q) = 3000 + q by omega, (g q hq).2.1]
    rfl
  · rw [show 2000 + q - 2000 = q by omega]
    exact (g2.1 q hq).2.2.2
theorem rn_strL (o : Nat) (ho : nm_isS o = true) (hd : decode M.2.1 pc = .ok (.arraylength, 1)) (k : Rn X M F Qf L (.int (Int32.ofNat (nm_slen.getD (o - 2000) 0)) :: st) (pc + 1) σ A) : Rn X M F Qf L (.ref (1000 + o) :: st) pc σ A := by
  intro hF v τ hr
  obtain ⟨p, e, R, s, m, args, below, meth, c, d, cells, slots⟩ := F
  intro H locs ls hP hS hL
  obtain ⟨t, e2, g⟩ := nm_tr_byt hF.2.2.2.2.2.2.1.2.2 ho
  rw [List.map_cons, e2]
  exact va_tlen hF.1 hF.2.1 g hS rfl hd (k hF v τ hr H locs ls hP hS hL)
theorem rn_strB (o : Nat) {i : Int32} (ho : nm_isS o = true) (hd : decode M.2.1 pc = .ok (.baload, 1)) (k : nm_in i (nm_slen.getD (o - 2000) 0) = true → Rn X M F Qf L (.int ((nm_sbyt.getD (o - 2000) []).getD i.toNatClampNeg 0) :: st) (pc + 1) σ A) : Rn X M F Qf L (.int i :: .ref (1000 + o) :: st) pc σ (nm_g (nm_in i (nm_slen.getD (o - 2000) 0)) A) := by
  refine rn_guard (fun hg => ?_)
  intro hF v τ hr
  obtain ⟨p, e, R, s, m, args, below, meth, c, d, cells, slots⟩ := F
  intro H locs ls hP hS hL
  obtain ⟨t, e2, g⟩ := nm_tr_byt hF.2.2.2.2.2.2.1.2.2 ho
  rw [List.map_cons, List.map_cons, e2]
  exact va_tb hF.1 hF.2.1 g hS (nm_in_vp hg) rfl hd (k hg hF v τ hr H locs ls hP hS hL)
theorem rn_getCS {i : Nat} (hw : Cond.fieldLink M.1.cls i "java/lang/String" "COMPACT_STRINGS" "Z" ∈ nm_WS) (hd : decode M.2.1 pc = .ok (.getstatic i, 3)) (k : Rn X M F Qf L (.int 1 :: st) (pc + 3) σ A) : Rn X M F Qf L st pc σ A := by
  intro hF v τ hr
  obtain ⟨p, e, R, s, m, args, below, meth, c, d, cells, slots⟩ := F
  intro H locs ls hP hS hL
  exact va_gets hF.1 hF.2.1 hF.2.2.2.2.2.2.1.2.2.2.2.1 hS hF.2.2.2.2.1 (hF.2.2.2.2.2.1 _ hw) (fun _ h => h) hd (k hF v τ hr H locs ls hP hS hL)
theorem rn_getSI {i : Nat} (hw : Cond.fieldLink M.1.cls i "jdk/internal/util/Preconditions" "SIOOBE_FORMATTER" "Ljava/util/function/BiFunction;" ∈ nm_WS) (hd : decode M.2.1 pc = .ok (.getstatic i, 3)) (k : Rn X M F Qf L (.ref 5000 :: st) (pc + 3) σ A) : Rn X M F Qf L st pc σ A := by
  intro hF v τ hr
  obtain ⟨p, e, R, s, m, args, below, meth, c, d, cells, slots⟩ := F
  intro H locs ls hP hS hL
  have k2 := k hF v τ hr H locs ls hP hS hL
  have e2 : nm_tr X (.ref 5000) = va_rf (nm_sv X 5000) := nm_tr_sv (by omega)
  rw [List.map_cons, e2] at k2
  exact va_gets hF.1 hF.2.1 hF.2.2.2.2.2.2.1.2.2.2.2.2.1 hS hF.2.2.2.2.1 (hF.2.2.2.2.2.1 _ hw) (fun _ h => h) hd k2

end RNS
