/-! calls, ends, a method's start -/
/-- what the tables say of a method that is called -/
def nm_CW (M : nm_M) (n : Nat) : Prop := Cond.code M.1 M.2.1 M.2.2.1 M.2.2.2 ∈ nm_WS ∧ (M.1.cls ≠ "java/lang/invoke/MethodHandle" ∧ M.1.cls ≠ "java/lang/invoke/VarHandle" ∧ (parseMethodDescriptor M.1.desc).map (fun d => d.parameters.length) = some n) ∧ Cond.initialized M.1.cls ∈ nm_WS ∧ Nat.ble M.2.2.1 40 = true
theorem nm_good (M : nm_M) (h : Cond.code M.1 M.2.1 M.2.2.1 M.2.2.2 ∈ nm_WS) : GoodIn nm_WS (nm_ws M) := by
  intro w hw
  rcases List.mem_cons.mp hw with rfl | hw
  · exact ⟨h, good_of_word (nm_ws_good _ h)⟩
  · exact ⟨hw, good_of_word (nm_ws_good _ hw)⟩
theorem nm_blind {X : nm_X} {σ : nm_St} {av : List Value} : FrameBlind (va_Pc av (nm_WP X σ)) := by
  intro a U g mk h
  exact ⟨h.1, h.2.1, nm_KS_same (u := U) (U := U.calling g mk a) rfl rfl h.2.2⟩
section RNC
variable {α β : Type} {X : nm_X} {M M2 : nm_M} {F : nm_F} {Qf : α → nm_St → State → Prop} {L : List (Nat × Value)} {st : List Value} {pc : Nat} {σ : nm_St}
/-- behind any call -/
theorem nm_after {p : Program} {e : Env} {R : Room} {s : State} {m : MethodId} {args : Array Value} {below : List Frame} {meth : Method} {c : Code} {d cells slots : Nat} {w2 : β → Option Value} {v2 : β} {τ2 : nm_St} {av : Array Value} {H : Heap} {locs : List Loc} {ls : Array Slot} {stk : List Value} {Q : State → Prop}
    (hr : va_Run p (nm_l X) e R s m args below meth c H locs cells slots 0 0 (F0 m pc ls stk) (st.map (nm_tr X)) (nm_Q X w2 v2 τ2 av) (nm_A X)) (hS : va_S (nm_A X) s.heap H locs) (hL : nm_has X ls M.2.2.1 L)
    (k : nm_G X M (p, e, R, s, m, args, below, meth, c, d, cells, slots) L ((w2 v2).toList ++ st) (pc + 3) τ2 Q) : W p (nm_l X) e R s m args below meth c H locs cells slots Q (F0 m pc ls stk) := by
  intro T hT XS
  obtain ⟨v, st₀, t, T', Ls, h0, X', hLs, e1, e2, ⟨hv, hw, hz, hk⟩, stp⟩ := hr T hT XS
  cases hv
  rw [h0] at hz hk
  have hS2 : va_S (nm_A X) s.heap T'.heap (locs ++ Ls) := by
    refine ⟨Nat.le_trans hS.1 (by rw [e1]; exact hz), fun q h1 h2 => ?_, fun q hq => ?_⟩
    · rw [e1, hk q (Nat.lt_of_lt_of_le h1 hS.1) h2]
      exact hS.2.1 q h1 h2
    · rcases List.mem_append.mp hq with h | h
      · exact hS.2.2 q h
      · exact hLs q h
  have kk := k T'.heap (locs ++ Ls) ls (by rw [e1]; exact hw.1) hS2 hL
  have es : ((w2 v2).toList ++ st).map (nm_tr X) = ((w2 v2).map (nm_tr X)).toList ++ st.map (nm_tr X) := by
    rw [List.map_append]
    cases w2 v2 <;> rfl
  rw [es] at kk
  obtain ⟨t2, a1, b1⟩ := kk T' rfl X'
  exact ⟨t2, stp t2 a1, b1⟩
theorem nm_pre {s : State} {H : Heap} {av : List Value} {locs : List Loc} (hP : va_P (nm_D X) vwCl (nm_wl X σ) H) (hS : va_S (nm_A X) s.heap H locs) (hK : nm_KS X s) : ∀ U : State, U.heap = H → s.WarmedH U.vm → va_Pc av (nm_WP X σ) av.toArray U := by
  intro U hU hW
  exact ⟨rfl, by rw [hU]; exact hP, nm_KS_step hW (by rw [hU]; exact hS.2.1) (by rw [hU]; exact hS.1) hK⟩
theorem nm_cats (X : nm_X) (st : List Value) : ((st.map (nm_tr X)).map fun v => v.category).sum = (st.map fun v => v.category).sum := by
  rw [List.map_map]
  congr 1
  exact List.map_congr_left fun v _ => nm_tr_cat X v
theorem nm_roomy {R : Room} {d n : Nat} (hd1 : d ≤ R.frames) (hd2 : d * 64 ≤ R.locals) (hd : 1 ≤ d) (hn : n ≤ 40) : (nm_rm (d - 1)).frames + 1 ≤ R.frames ∧ 8 + (n + 11) + (nm_rm (d - 1)).locals ≤ R.locals := by
  unfold nm_rm
  dsimp only
  omega
theorem rn_callV (own2 : String) {w2 : β → Option Value} {h2 i n o : Nat} {As stk : List Value} {r2 : Option (β × nm_St)} {k : β × nm_St → Option (α × nm_St)} (hC : Ct X M2 h2 w2 (.ref o :: As) σ r2) (hh : h2 + 1 ≤ nm_d F) (cw : nm_CW M2 n) (hl : Cond.methodLink M.1.cls i M2.1 ∈ nm_WS) (hin : Cond.instanceMethod M2.1 ∈ nm_WS) (hse : Cond.selects own2 M2.1 M2.1 ∈ nm_WS) (ho2 : M2.1.cls = own2)
    (hrc : ∀ (s : State) (H : Heap) (locs : List Loc), nm_KS X s → va_P (nm_D X) vwCl (nm_wl X σ) H → va_S (nm_A X) s.heap H locs → ∃ (b : Nat) (cell : Cell), nm_tr X (.ref o) = .ref b ∧ H[b]? = some cell ∧ cell.vm.isStatics = false ∧ s.vm.findClass own2 = some cell.cls)
    (hn : As.length = n) (hst : stk = As.reverse ++ .ref o :: st) (hcat : (st.map fun v => v.category).sum ≤ 8) (hd : decode M.2.1 pc = .ok (.invokevirtual i, 3)) (kk : ∀ q, Rn X M F Qf L ((w2 q.1).toList ++ st) (pc + 3) q.2 (k q)) : Rn X M F Qf L stk pc σ (r2.bind k) := by
  subst hst
  intro hF v τ hr
  cases hq : r2 with
  | none => rw [hq] at hr; cases hr
  | some q =>
    rw [hq] at hr
    have k0 := kk q hF v τ hr
    obtain ⟨p, e, R, s, m, args, below, meth, c, d, cells, slots⟩ := F
    intro H locs ls hP hS hL
    obtain ⟨hx, hb, hret, hml, hown, hts, hK, hlk, hdf, hdl, hce, hsl⟩ := hF
    obtain ⟨cw1, cw2, cw3, cw4⟩ := cw
    have hh : h2 + 1 ≤ d := hh
    have hM := hC (d - 1) (by omega) q.1 q.2 hq
    obtain ⟨b, cell, eb, r1, r2, r3⟩ := hrc s H locs hK hP hS
    have hroom := nm_roomy hdf hdl (show 1 ≤ d by omega) (Nat.le_of_ble_eq_true cw4)
    have CB : CallB R s args M.1.cls i M2.1 M2.2.1 M2.2.2.1 M2.2.2.2 (nm_ws M2) (nm_rm (d - 1)) 0 0 n := callB_of n hts (nm_good M2 cw1) rfl rfl rfl (hts _ cw3) (hts _ hl) ⟨cw2.1, cw2.2.1, cw2.2.2⟩ hroom
    subst ho2
    refine nm_after (w2 := w2) (v2 := q.1) (τ2 := q.2) (st := st) (va_runV (As := As.map (nm_tr X)) (b := b) (Pc := va_Pc ((Value.ref o :: As).map (nm_tr X)) (nm_WP X σ)) ⟨hx, hb, hml, hown, hts⟩ hM ⟨CB, hts _ hin, hts _ hse⟩ ⟨nm_blind, ⟨cell, r1, r2, r3⟩, ?_⟩ rfl (by rw [List.length_map]; exact hn) hL.1 ?_ (lv_room (by rw [nm_cats]; exact hcat)) hd ⟨hce, hsl⟩) hS hL k0
    · rw [← eb]
      exact nm_pre (av := (Value.ref o :: As).map (nm_tr X)) hP hS hK
    · show ((As.reverse ++ Value.ref o :: st).map (nm_tr X)) = _
      rw [List.map_append, List.map_cons, eb, List.map_reverse]
theorem rn_callVN (own2 : String) (host : String) {w2 : β → Option Value} {h2 i n o : Nat} {As stk : List Value} {r2 : Option (β × nm_St)} {k : β × nm_St → Option (α × nm_St)} (hC : Ct X M2 h2 w2 (.ref o :: As) σ r2) (hh : h2 + 1 ≤ nm_d F) (cw : nm_CW M2 n) (hl : Cond.methodLinkNest M.1.cls i M2.1 host ∈ nm_NW) (hin : Cond.instanceMethod M2.1 ∈ nm_WS) (hse : Cond.selects own2 M2.1 M2.1 ∈ nm_WS) (ho2 : M2.1.cls = own2)
    (hrc : ∀ (s : State) (H : Heap) (locs : List Loc), nm_KS X s → va_P (nm_D X) vwCl (nm_wl X σ) H → va_S (nm_A X) s.heap H locs → ∃ (b : Nat) (cell : Cell), nm_tr X (.ref o) = .ref b ∧ H[b]? = some cell ∧ cell.vm.isStatics = false ∧ s.vm.findClass own2 = some cell.cls)
    (hn : As.length = n) (hst : stk = As.reverse ++ .ref o :: st) (hcat : (st.map fun v => v.category).sum ≤ 8) (hd : decode M.2.1 pc = .ok (.invokevirtual i, 3)) (kk : ∀ q, Rn X M F Qf L ((w2 q.1).toList ++ st) (pc + 3) q.2 (k q)) : Rn X M F Qf L stk pc σ (r2.bind k) := by
  subst hst
  intro hF v τ hr
  cases hq : r2 with
  | none => rw [hq] at hr; cases hr
  | some q =>
    rw [hq] at hr
    have k0 := kk q hF v τ hr
    obtain ⟨p, e, R, s, m, args, below, meth, c, d, cells, slots⟩ := F
    intro H locs ls hP hS hL
    obtain ⟨hx, hb, hret, hml, hown, hts, hK, hlk, hdf, hdl, hce, hsl⟩ := hF
    obtain ⟨cw1, cw2, cw3, cw4⟩ := cw
    have hh : h2 + 1 ≤ d := hh
    have hM := hC (d - 1) (by omega) q.1 q.2 hq
    obtain ⟨b, cell, eb, r1, r2, r3⟩ := hrc s H locs hK hP hS
    have hroom := nm_roomy hdf hdl (show 1 ≤ d by omega) (Nat.le_of_ble_eq_true cw4)
    have CB : va_CN R s args M.1.cls i M2.1 host M2.2.1 M2.2.2.1 M2.2.2.2 (nm_ws M2) (nm_rm (d - 1)) 0 0 n := va_cnB n hts (nm_good M2 cw1) rfl rfl rfl (hK.2.1.2 _ hl) (hts _ cw3) ⟨cw2.1, cw2.2.1, cw2.2.2⟩ hroom
    subst ho2
    refine nm_after (w2 := w2) (v2 := q.1) (τ2 := q.2) (st := st) (va_runVN (As := As.map (nm_tr X)) (b := b) (Pc := va_Pc ((Value.ref o :: As).map (nm_tr X)) (nm_WP X σ)) ⟨hx, hb, hml, hown, hts⟩ hM ⟨CB, hts _ hin, hts _ hse⟩ ⟨nm_blind, ⟨cell, r1, r2, r3⟩, ?_⟩ rfl (by rw [List.length_map]; exact hn) hL.1 ?_ (lv_room (by rw [nm_cats]; exact hcat)) hd ⟨hce, hsl⟩) hS hL k0
    · rw [← eb]
      exact nm_pre (av := (Value.ref o :: As).map (nm_tr X)) hP hS hK
    · show ((As.reverse ++ Value.ref o :: st).map (nm_tr X)) = _
      rw [List.map_append, List.map_cons, eb, List.map_reverse]
theorem rn_callS {w2 : β → Option Value} {h2 i n : Nat} {As stk : List Value} {r2 : Option (β × nm_St)} {k : β × nm_St → Option (α × nm_St)} (hC : Ct X M2 h2 w2 As σ r2) (hh : h2 + 1 ≤ nm_d F) (cw : nm_CW M2 n) (hl : Cond.methodLink M.1.cls i M2.1 ∈ nm_WS) (hstc : Cond.static M2.1 ∈ nm_WS) (hn : As.length = n) (hst : stk = As.reverse ++ st) (hcat : (st.map fun v => v.category).sum ≤ 8) (hd : decode M.2.1 pc = .ok (.invokestatic i, 3)) (kk : ∀ q, Rn X M F Qf L ((w2 q.1).toList ++ st) (pc + 3) q.2 (k q)) : Rn X M F Qf L stk pc σ (r2.bind k) := by
  subst hst
  intro hF v τ hr
  cases hq : r2 with
  | none => rw [hq] at hr; cases hr
  | some q =>
    rw [hq] at hr
    have k0 := kk q hF v τ hr
    obtain ⟨p, e, R, s, m, args, below, meth, c, d, cells, slots⟩ := F
    intro H locs ls hP hS hL
    obtain ⟨hx, hb, hret, hml, hown, hts, hK, hlk, hdf, hdl, hce, hsl⟩ := hF
    obtain ⟨cw1, cw2, cw3, cw4⟩ := cw
    have hh : h2 + 1 ≤ d := hh
    have hM := hC (d - 1) (by omega) q.1 q.2 hq
    have hroom := nm_roomy hdf hdl (show 1 ≤ d by omega) (Nat.le_of_ble_eq_true cw4)
    have CB : CallB R s args M.1.cls i M2.1 M2.2.1 M2.2.2.1 M2.2.2.2 (nm_ws M2) (nm_rm (d - 1)) 0 0 n := callB_of n hts (nm_good M2 cw1) rfl rfl rfl (hts _ cw3) (hts _ hl) ⟨cw2.1, cw2.2.1, cw2.2.2⟩ hroom
    refine nm_after (w2 := w2) (v2 := q.1) (τ2 := q.2) (st := st) (va_runS (As := As.map (nm_tr X)) (Pc := va_Pc (As.map (nm_tr X)) (nm_WP X σ)) ⟨hx, hb, hml, hown, hts⟩ hM ⟨CB, hts _ hstc⟩ ⟨nm_blind, nm_pre (av := As.map (nm_tr X)) hP hS hK⟩ rfl (by rw [List.length_map]; exact hn) hL.1 ?_ (lv_room (by rw [nm_cats]; exact hcat)) hd ⟨hce, hsl⟩) hS hL k0
    show ((As.reverse ++ st).map (nm_tr X)) = _
    rw [List.map_append, List.map_reverse]
theorem rn_callSN (host : String) {w2 : β → Option Value} {h2 i n : Nat} {As stk : List Value} {r2 : Option (β × nm_St)} {k : β × nm_St → Option (α × nm_St)} (hC : Ct X M2 h2 w2 As σ r2) (hh : h2 + 1 ≤ nm_d F) (cw : nm_CW M2 n) (hl : Cond.methodLinkNest M.1.cls i M2.1 host ∈ nm_NW) (hstc : Cond.static M2.1 ∈ nm_WS) (hn : As.length = n) (hst : stk = As.reverse ++ st) (hcat : (st.map fun v => v.category).sum ≤ 8) (hd : decode M.2.1 pc = .ok (.invokestatic i, 3)) (kk : ∀ q, Rn X M F Qf L ((w2 q.1).toList ++ st) (pc + 3) q.2 (k q)) : Rn X M F Qf L stk pc σ (r2.bind k) := by
  subst hst
  intro hF v τ hr
  cases hq : r2 with
  | none => rw [hq] at hr; cases hr
  | some q =>
    rw [hq] at hr
    have k0 := kk q hF v τ hr
    obtain ⟨p, e, R, s, m, args, below, meth, c, d, cells, slots⟩ := F
    intro H locs ls hP hS hL
    obtain ⟨hx, hb, hret, hml, hown, hts, hK, hlk, hdf, hdl, hce, hsl⟩ := hF
    obtain ⟨cw1, cw2, cw3, cw4⟩ := cw
    have hh : h2 + 1 ≤ d := hh
    have hM := hC (d - 1) (by omega) q.1 q.2 hq
    have hroom := nm_roomy hdf hdl (show 1 ≤ d by omega) (Nat.le_of_ble_eq_true cw4)
    have CB : va_CN R s args M.1.cls i M2.1 host M2.2.1 M2.2.2.1 M2.2.2.2 (nm_ws M2) (nm_rm (d - 1)) 0 0 n := va_cnB n hts (nm_good M2 cw1) rfl rfl rfl (hK.2.1.2 _ hl) (hts _ cw3) ⟨cw2.1, cw2.2.1, cw2.2.2⟩ hroom
    refine nm_after (w2 := w2) (v2 := q.1) (τ2 := q.2) (st := st) (va_runSN (As := As.map (nm_tr X)) (Pc := va_Pc (As.map (nm_tr X)) (nm_WP X σ)) ⟨hx, hb, hml, hown, hts⟩ hM ⟨CB, hts _ hstc, trivial⟩ ⟨nm_blind, nm_pre (av := As.map (nm_tr X)) hP hS hK⟩ rfl (by rw [List.length_map]; exact hn) hL.1 ?_ (lv_room (by rw [nm_cats]; exact hcat)) hd ⟨hce, hsl⟩) hS hL k0
    show ((As.reverse ++ st).map (nm_tr X)) = _
    rw [List.map_append, List.map_reverse]
/-- the receiver is an object of the world, or a text -/
theorem nm_rcO {C : String} {T : u_T} {N t o : Nat} {f : Nat → Option (Option Nat)} (hsh : nm_sh o = (t + 3, N, f)) (ht : t ≠ 96) (hc : vwCl[t]? = some (C, T, N)) : ∀ (s : State) (H : Heap) (locs : List Loc), nm_KS X s → va_P (nm_D X) vwCl (nm_wl X σ) H → va_S (nm_A X) s.heap H locs → ∃ (b : Nat) (cell : Cell), nm_tr X (.ref o) = .ref b ∧ H[b]? = some cell ∧ cell.vm.isStatics = false ∧ s.vm.findClass C = some cell.cls := by
  intro s H locs hK hP hS
  have hk := nm_sh_lt hsh (by omega)
  obtain ⟨cell, h1, h2, h3⟩ := va_recv (q0 := o) hK.1 hP hc (by rw [nm_wl_at X σ hk, nm_en_O X σ hsh])
  exact ⟨_, cell, nm_tr_ref (by unfold nm_N at hk; omega), h1, h2, h3⟩
theorem nm_rcS {o : Nat} (ho : nm_isS o = true) : ∀ (s : State) (H : Heap) (locs : List Loc), nm_KS X s → va_P (nm_D X) vwCl (nm_wl X σ) H → va_S (nm_A X) s.heap H locs → ∃ (b : Nat) (cell : Cell), nm_tr X (.ref o) = .ref b ∧ H[b]? = some cell ∧ cell.vm.isStatics = false ∧ s.vm.findClass "java/lang/String" = some cell.cls := by
  intro s H locs hK hP hS
  obtain ⟨q, hq, rfl⟩ := nm_isS_i ho
  obtain ⟨-, ⟨adK, adV, g, g2⟩, -⟩ := hK.2.2
  obtain ⟨cell, h1, h2, h3⟩ := vk_recv g2 hq hS
  exact ⟨_, cell, by rw [nm_tr_sv (by omega), (g q hq).1]; rfl, h1, h2, h3⟩
/-- ends -/
theorem nm_end {s t : State} {H : Heap} {locs : List Loc} {w : α → Option Value} {v : α} (hP : va_P (nm_D X) vwCl (nm_wl X σ) H) (hS : va_S (nm_A X) s.heap H locs) (hK : nm_KS X s) (ht : t.heap = H) (hW : s.WarmedH t.vm) : nm_WP X σ t ∧ va_F (nm_A X) s t :=
  ⟨⟨by rw [ht]; exact hP, nm_KS_step hW (by rw [ht]; exact hS.2.1) (by rw [ht]; exact hS.1) hK⟩, hS.F ht⟩
end RNC
section RNE
variable {X : nm_X} {M : nm_M} {F : nm_F} {L : List (Nat × Value)} {pc : Nat} {σ : nm_St}
theorem rn_iret {x : Int32} (hret : M.2.2.2 = some .int) (hd : decode M.2.1 pc = .ok (.ireturn, 1)) : Rn X M F (nm_Qf X F nm_wI) L [.int x] pc σ (some (x, σ)) := by
  intro hF v τ hr
  cases hr
  obtain ⟨p, e, R, s, m, args, below, meth, c, d, cells, slots⟩ := F
  intro H locs ls hP hS hL
  exact W.iret hF.1 hF.2.1 (hF.2.2.1.trans hret) (fun t ht hW => ⟨rfl, nm_end (w := nm_wI) (v := x) hP hS hF.2.2.2.2.2.2.1 ht hW⟩) hS.2.2 hd hF.2.2.2.2.2.2.2.1
/-- a boolean, char or byte is answered: it must be one -/
theorem rn_zret {x : Int32} {ty : FieldType} (hret : M.2.2.2 = some ty) (hn : narrow ty (.int x) = .int x) (hd : decode M.2.1 pc = .ok (.ireturn, 1)) : Rn X M F (nm_Qf X F nm_wI) L [.int x] pc σ (some (x, σ)) := by
  intro hF v τ hr
  cases hr
  obtain ⟨p, e, R, s, m, args, below, meth, c, d, cells, slots⟩ := F
  intro H locs ls hP hS hL
  exact W.zret hF.1 hF.2.1 (hF.2.2.1.trans hret) hn (fun t ht hW => ⟨rfl, nm_end (w := nm_wI) (v := x) hP hS hF.2.2.2.2.2.2.1 ht hW⟩) hS.2.2 hd hF.2.2.2.2.2.2.2.1
theorem rn_lret {x : Int64} (hret : M.2.2.2 = some .long) (hd : decode M.2.1 pc = .ok (.lreturn, 1)) : Rn X M F (nm_Qf X F nm_wJ) L [.long x] pc σ (some (x, σ)) := by
  intro hF v τ hr
  cases hr
  obtain ⟨p, e, R, s, m, args, below, meth, c, d, cells, slots⟩ := F
  intro H locs ls hP hS hL
  exact W.lret hF.1 hF.2.1 (hF.2.2.1.trans hret) (fun t ht hW => ⟨rfl, nm_end (w := nm_wJ) (v := x) hP hS hF.2.2.2.2.2.2.1 ht hW⟩) hS.2.2 hd hF.2.2.2.2.2.2.2.1
theorem rn_vret (hret : M.2.2.2 = none) (hd : decode M.2.1 pc = .ok (.return_, 1)) : Rn X M F (nm_Qf X F nm_wV) L [] pc σ (some ((), σ)) := by
  intro hF v τ hr
  cases hr
  obtain ⟨p, e, R, s, m, args, below, meth, c, d, cells, slots⟩ := F
  intro H locs ls hP hS hL
  exact W.vret hF.1 hF.2.1 (hF.2.2.1.trans hret) (fun t ht hW => ⟨rfl, nm_end (w := nm_wV) (v := ()) hP hS hF.2.2.2.2.2.2.1 ht hW⟩) hS.2.2 hd hF.2.2.2.2.2.2.2.1
theorem rn_aret {x : Nat} {n : String} (hret : M.2.2.2 = some (.object n)) (hk : nm_rok x = true) (hd : decode M.2.1 pc = .ok (.areturn, 1)) : Rn X M F (nm_Qf X F nm_wR) L [.ref x] pc σ (some (x, σ)) := by
  intro hF v τ hr
  cases hr
  obtain ⟨p, e, R, s, m, args, below, meth, c, d, cells, slots⟩ := F
  intro H locs ls hP hS hL
  exact W.aret hF.1 hF.2.1 (hF.2.2.1.trans hret) (Or.inl ⟨n, rfl⟩) (Or.inr (nm_rok_some hF.2.2.2.2.2.2.1.2.2 hk)) (fun t ht hW => ⟨rfl, nm_end (w := nm_wR) (v := x) hP hS hF.2.2.2.2.2.2.1 ht hW⟩) hS.2.2 hd hF.2.2.2.2.2.2.2.1
end RNE
/-- arguments as locals -/
def nm_as : Nat → List Value → List (Nat × Value)
  | _, [] => []
  | i, v :: vs => (i, v) :: nm_as (match v with | .long _ => i + 2 | .double _ => i + 2 | _ => i + 1) vs
theorem nm_as_eq (v : Value) (i : Nat) : (match v with | .long _ => i + 2 | .double _ => i + 2 | _ => i + 1) = if v.category = 2 then i + 2 else i + 1 := by
  cases v <;> rfl
theorem nm_as_mem (X : nm_X) : ∀ (vs : List Value) (i : Nat) (q : Nat × Value), q ∈ nm_as i vs → (q.1, nm_tr X q.2) ∈ lv_args i (vs.map (nm_tr X))
  | [], _, _, h => by cases h
  | v :: vs, i, q, h => by
    unfold nm_as at h
    rw [List.map_cons]
    unfold lv_args
    rcases List.mem_cons.mp h with rfl | h
    · exact List.mem_cons_self
    · refine List.mem_cons_of_mem _ ?_
      rw [nm_as_eq] at h
      rw [nm_tr_cat]
      exact nm_as_mem X vs _ q h
def nm_wid : List Value → Nat
  | [] => 0
  | v :: vs => (match v with | .long _ => 2 | .double _ => 2 | _ => 1) + nm_wid vs
theorem nm_wid_eq (X : nm_X) : ∀ vs : List Value, (lg_sl (vs.map (nm_tr X))).length = nm_wid vs
  | [] => rfl
  | v :: vs => by
    have ih := nm_wid_eq X vs
    unfold lg_sl at ih ⊢
    rw [List.map_cons, List.flatMap_cons, List.length_append, ih, nm_tr_cat]
    cases v <;> rfl
theorem Ct.of {α : Type} {X : nm_X} {M : nm_M} {h : Nat} {w : α → Option Value} {args : List Value} {σ : nm_St} {res : Option (α × nm_St)} (hpl : plainName M.1.cls = true) (hwid : Nat.ble (nm_wid args) M.2.2.1 = true) (body : ∀ F : nm_F, h ≤ nm_d F → Rn X M F (nm_Qf X F w) (nm_as 0 args) [] 0 σ res) : Ct X M h w args σ res := by
  intro d hd v τ hr
  refine Met.ofW (cc := M.2.1) (maxL := M.2.2.1) (ret := M.2.2.2) hpl rfl ?_
  intro p e s m ar below meth c s₁ B hml hv
  obtain ⟨rfl, hw⟩ := hv
  have hts := atoms_spec (ws := nm_ws M) B.pre
  have hown : s.vm.findClass M.1.cls = some m.cls := findClass_of_methodNamed B.named
  have k := body (p, e, nm_rm d, s, m, (args.map (nm_tr X)).toArray, below, meth, c, d, 0, 0) hd ⟨B.exec, B.bytes, B.returns, hml, hown, fun w hw => hts w (List.mem_cons_of_mem _ hw), hw.2, B.notSynchronized, Nat.le_refl _, Nat.le_refl _, Nat.le_refl _, Nat.le_refl _⟩ v τ hr
  have hl := lv_entry (args.map (nm_tr X)) (n := M.2.2.1) (by rw [nm_wid_eq]; exact Nat.le_of_ble_eq_true hwid)
  have k2 := k s.heap [] _ hw.1 va_S.rf ⟨hl.1, hl.2.1, fun i x hx => hl.2.2 _ (nm_as_mem X args 0 _ (nm_at_mem hx))⟩
  rw [lg_entry_eq]
  exact k2
