/-! switches, arraycopy -/
section RNM
variable {α : Type} {X : nm_X} {M : nm_M} {F : nm_F} {Qf : α → nm_St → State → Prop} {L : List (Nat × Value)} {st : List Value} {pc : Nat} {σ : nm_St} {A B : Option (α × nm_St)}
theorem rn_tcase {dflt lo hi : Int} {offs : Array Int} {len : Nat} {x : Int32} {off : Int} (j : Nat) (v : Int32) (tgt : Nat) (hd : decode M.2.1 pc = .ok (.tableswitch dflt lo hi offs, len)) (hv : v.toInt = lo + j) (hj : lo + j ≤ hi) (ho : offs[j]? = some off) (ht : (pc : Int) + off = (tgt : Int)) (kt : x = v → Rn X M F Qf L st tgt σ A) (kf : ¬ x = v → Rn X M F Qf L (.int x :: st) pc σ B) : Rn X M F Qf L (.int x :: st) pc σ (if x = v then A else B) := by
  by_cases hx : x = v
  · rw [if_pos hx]
    intro hF v2 τ hr
    have kk := kt hx hF v2 τ hr
    obtain ⟨p, e, R, s, m, args, below, meth, c, d, cells, slots⟩ := F
    intro H locs ls hP hS hL
    subst hx
    refine lv_tableIn hF.1 hF.2.1 hd (by omega) (by omega) (off := off) ?_ ht (kk H locs ls hP hS hL)
    rw [show (x.toInt - lo).toNat = j by omega]
    exact ho
  · rw [if_neg hx]
    exact kf hx
theorem nm_tout {x : Int32} {lo : Int} {vs : List Int32} (hvs : ∀ j : Nat, j < vs.length → (vs.getD j 0).toInt = lo + j) (hx : ∀ v ∈ vs, ¬ x = v) : x.toInt < lo ∨ lo + vs.length ≤ x.toInt := by
  by_cases h1 : x.toInt < lo
  · exact Or.inl h1
  · by_cases h2 : lo + vs.length ≤ x.toInt
    · exact Or.inr h2
    · exfalso
      have hj : (x.toInt - lo).toNat < vs.length := by omega
      have e := hvs _ hj
      have hm : vs.getD (x.toInt - lo).toNat 0 ∈ vs := by
        rw [List.getD_eq_getElem?_getD, List.getElem?_eq_getElem hj]
        exact List.getElem_mem hj
      refine hx _ hm (Int32.toInt_inj.mp ?_)
      rw [e]
      omega
theorem rn_tdef {dflt lo hi : Int} {offs : Array Int} {len : Nat} {x : Int32} (vs : List Int32) (tgt : Nat) (hd : decode M.2.1 pc = .ok (.tableswitch dflt lo hi offs, len)) (hvs : ∀ j : Nat, j < vs.length → (vs.getD j 0).toInt = lo + j) (hl : lo + vs.length = hi + 1) (hx : ∀ v ∈ vs, ¬ x = v) (ht : (pc : Int) + dflt = (tgt : Int)) (k : Rn X M F Qf L st tgt σ A) : Rn X M F Qf L (.int x :: st) pc σ A := by
  intro hF v2 τ hr
  have kk := k hF v2 τ hr
  obtain ⟨p, e, R, s, m, args, below, meth, c, d, cells, slots⟩ := F
  intro H locs ls hP hS hL
  refine lv_tableOut hF.1 hF.2.1 hd ?_ ht (kk H locs ls hP hS hL)
  rcases nm_tout hvs hx with h | h
  · exact Or.inl h
  · exact Or.inr (by omega)
theorem rn_lcase {dflt : Int} {ps : Array (Int × Int)} {len : Nat} {x : Int32} {off : Int} (v : Int32) (tgt : Nat) (hd : decode M.2.1 pc = .ok (.lookupswitch dflt ps, len)) (hp : (ps.toList.zip (ps.toList.drop 1)).all (fun (a, next) => a.1 < next.1) = true) (ho : Op.lookupswitch.offset ps.toList dflt v.toInt = off) (ht : (pc : Int) + off = (tgt : Int)) (kt : x = v → Rn X M F Qf L st tgt σ A) (kf : ¬ x = v → Rn X M F Qf L (.int x :: st) pc σ B) : Rn X M F Qf L (.int x :: st) pc σ (if x = v then A else B) := by
  by_cases hx : x = v
  · rw [if_pos hx]
    intro hF v2 τ hr
    have kk := kt hx hF v2 τ hr
    obtain ⟨p, e, R, s, m, args, below, meth, c, d, cells, slots⟩ := F
    intro H locs ls hP hS hL
    subst hx
    exact lv_lookup hF.1 hF.2.1 hd hp ho ht (kk H locs ls hP hS hL)
  · rw [if_neg hx]
    exact kf hx
theorem rn_ldef {dflt : Int} {ps : Array (Int × Int)} {len : Nat} {x : Int32} (tgt : Nat) (hd : decode M.2.1 pc = .ok (.lookupswitch dflt ps, len)) (hp : (ps.toList.zip (ps.toList.drop 1)).all (fun (a, next) => a.1 < next.1) = true) (ho : Op.lookupswitch.offset ps.toList dflt x.toInt = dflt) (ht : (pc : Int) + dflt = (tgt : Int)) (k : Rn X M F Qf L st tgt σ A) : Rn X M F Qf L (.int x :: st) pc σ A := by
  intro hF v2 τ hr
  have kk := k hF v2 τ hr
  obtain ⟨p, e, R, s, m, args, below, meth, c, d, cells, slots⟩ := F
  intro H locs ls hP hS hL
  exact lv_lookup hF.1 hF.2.1 hd hp ho ht (kk H locs ls hP hS hL)
def nm_cg (sp dp n : Int32) (n0 n1 : Nat) : Bool := !decide (sp < 0) && !decide (dp < 0) && !decide (n < 0) && decide (sp.toNatClampNeg + n.toNatClampNeg ≤ n0) && decide (dp.toNatClampNeg + n.toNatClampNeg ≤ n1)
theorem nm_cg_of {sp dp n : Int32} {n0 n1 : Nat} (h : nm_cg sp dp n n0 n1 = true) : ¬ sp < 0 ∧ ¬ dp < 0 ∧ ¬ n < 0 ∧ sp.toNatClampNeg + n.toNatClampNeg ≤ n0 ∧ dp.toNatClampNeg + n.toNatClampNeg ≤ n1 := by
  simp only [nm_cg, Bool.and_eq_true, Bool.not_eq_true', decide_eq_true_eq, decide_eq_false_iff_not] at h
  exact ⟨h.1.1.1.1, h.1.1.1.2, h.1.1.2, h.1.2, h.2⟩
theorem nm_ac_room {X : nm_X} {R : Room} {d : Nat} {st : List Value} (hd1 : 1 ≤ d) (h1 : d ≤ R.frames) (h2 : d * 64 ≤ R.locals) (hc : (st.map fun v => v.category).sum ≤ 8) : 1 ≤ R.frames ∧ ((st.map (nm_tr X)).map fun v => v.category).sum + (nativeFrameWords "java/lang/System" "arraycopy" 5 + 11) ≤ R.locals := by
  rw [nm_cats]
  have e : nativeFrameWords "java/lang/System" "arraycopy" 5 = 7 := by decide +kernel
  rw [e]
  omega
theorem nm_acw : Cond.native arraycopyName ∈ nm_WS ∧ Cond.static arraycopyName ∈ nm_WS ∧ Cond.initialized "java/lang/System" ∈ nm_WS :=
  ⟨List.mem_filter.mpr (by decide +kernel), List.mem_filter.mpr (by decide +kernel), List.mem_filter.mpr (by decide +kernel)⟩
theorem rn_acopyI {i a b n0 n1 : Nat} {sp dp n : Int32} (ha : nm_sh a = nm_eA n0) (hb : nm_sh b = nm_eA n1) (hh : 1 ≤ nm_d F) (hc : (st.map fun v => v.category).sum ≤ 8) (hl : Cond.methodLink M.1.cls i arraycopyName ∈ nm_WS) (hd : decode M.2.1 pc = .ok (.invokestatic i, 3)) (k : Rn X M F Qf L st (pc + 3) (nm_cpI σ a sp.toNatClampNeg b dp.toNatClampNeg n.toNatClampNeg) A) : Rn X M F Qf L (.int n :: .int dp :: .ref b :: .int sp :: .ref a :: st) pc σ (nm_g (nm_cg sp dp n n0 n1) A) := by
  refine rn_guard (fun hg => ?_)
  obtain ⟨g1, g2, g3, g4, g5⟩ := nm_cg_of hg
  intro hF v τ hr
  obtain ⟨p, e, R, s, m, args, below, meth, c, d, cells, slots⟩ := F
  intro H locs ls hP hS hL
  have hka := nm_sh_lt ha (by omega)
  have hkb := nm_sh_lt hb (by omega)
  have hroom := nm_ac_room (X := X) (R := R) (d := d) (st := st) hh hF.2.2.2.2.2.2.2.2.1 hF.2.2.2.2.2.2.2.2.2.1 hc
  rw [List.map_cons, List.map_cons, List.map_cons, List.map_cons, List.map_cons, nm_tr_ref (show a < 1000 by unfold nm_N at hka; omega), nm_tr_ref (show b < 1000 by unfold nm_N at hkb; omega)]
  refine va_copyi (ty := .int) hF.1 hF.2.1 (hF.2.2.2.1.trans hL.1.symm) hF.2.2.2.2.1 (hF.2.2.2.2.2.1 _ hl) (hF.2.2.2.2.2.1 _ nm_acw.1) (hF.2.2.2.2.2.1 _ nm_acw.2.1) (hF.2.2.2.2.2.1 _ nm_acw.2.2) hF.2.2.2.2.2.2.1.1 hP (hF.2.2.2.2.2.2.1.2.1.1 σ) hS a b 0 0 (by rw [nm_wl_at X σ hka, nm_en_A X σ ha]) (by rw [nm_wl_at X σ hkb, nm_en_A X σ hb]) rfl rfl rfl g1 g2 g3 g4 g5 (fun _ _ => rfl) hroom.1 hroom.2 hd (fun H1 locs1 hP1 _ hS1 => ?_)
  have hP2 : va_P (nm_D X) vwCl (nm_wl X (nm_cpI σ a sp.toNatClampNeg b dp.toNatClampNeg n.toNatClampNeg)) H1 := by
    rw [← nm_cpy_A X σ (p := a) hb]
    exact hP1
  exact k hF v τ hr H1 locs1 ls hP2 hS1 hL
theorem rn_acopyJ {i a b n0 n1 : Nat} {sp dp n : Int32} (ha : nm_sh a = nm_eJ n0) (hb : nm_sh b = nm_eJ n1) (hh : 1 ≤ nm_d F) (hc : (st.map fun v => v.category).sum ≤ 8) (hl : Cond.methodLink M.1.cls i arraycopyName ∈ nm_WS) (hd : decode M.2.1 pc = .ok (.invokestatic i, 3)) (k : Rn X M F Qf L st (pc + 3) (nm_cpJ σ a sp.toNatClampNeg b dp.toNatClampNeg n.toNatClampNeg) A) : Rn X M F Qf L (.int n :: .int dp :: .ref b :: .int sp :: .ref a :: st) pc σ (nm_g (nm_cg sp dp n n0 n1) A) := by
  refine rn_guard (fun hg => ?_)
  obtain ⟨g1, g2, g3, g4, g5⟩ := nm_cg_of hg
  intro hF v τ hr
  obtain ⟨p, e, R, s, m, args, below, meth, c, d, cells, slots⟩ := F
  intro H locs ls hP hS hL
  have hka := nm_sh_lt ha (by omega)
  have hkb := nm_sh_lt hb (by omega)
  have hroom := nm_ac_room (X := X) (R := R) (d := d) (st := st) hh hF.2.2.2.2.2.2.2.2.1 hF.2.2.2.2.2.2.2.2.2.1 hc
  rw [List.map_cons, List.map_cons, List.map_cons, List.map_cons, List.map_cons, nm_tr_ref (show a < 1000 by unfold nm_N at hka; omega), nm_tr_ref (show b < 1000 by unfold nm_N at hkb; omega)]
  refine va_copyl (ty := .long) hF.1 hF.2.1 (hF.2.2.2.1.trans hL.1.symm) hF.2.2.2.2.1 (hF.2.2.2.2.2.1 _ hl) (hF.2.2.2.2.2.1 _ nm_acw.1) (hF.2.2.2.2.2.1 _ nm_acw.2.1) (hF.2.2.2.2.2.1 _ nm_acw.2.2) hF.2.2.2.2.2.2.1.1 hP (hF.2.2.2.2.2.2.1.2.1.1 σ) hS a b 1 1 (by rw [nm_wl_at X σ hka, nm_en_J X σ ha]) (by rw [nm_wl_at X σ hkb, nm_en_J X σ hb]) rfl rfl rfl g1 g2 g3 g4 g5 (fun _ _ => rfl) hroom.1 hroom.2 hd (fun H1 locs1 hP1 _ hS1 => ?_)
  have hP2 : va_P (nm_D X) vwCl (nm_wl X (nm_cpJ σ a sp.toNatClampNeg b dp.toNatClampNeg n.toNatClampNeg)) H1 := by
    rw [← nm_cpy_J X σ (p := a) hb]
    exact hP1
  exact k hF v τ hr H1 locs1 ls hP2 hS1 hL
end RNM
