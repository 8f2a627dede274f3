/-! CONSTRUCTORS: a world that grows, newest cells first -/
abbrev kn_Y : Type := Launch × va_G × (ClassId × ClassId × ClassId) × Nat
def kn_l (Y : kn_Y) : Launch := Y.1
def kn_D (Y : kn_Y) : va_G := Y.2.1
def kn_cI (Y : kn_Y) : ClassId := Y.2.2.1.1
def kn_cJ (Y : kn_Y) : ClassId := Y.2.2.1.2.1
def kn_cQ (Y : kn_Y) : ClassId := Y.2.2.1.2.2
def kn_A (Y : kn_Y) : Nat → Prop := fun q => Y.2.2.2 ≤ q
def kn_tys (Y : kn_Y) : List (ClassId × FieldType) := [(kn_cI Y, .int), (kn_cJ Y, .long), (kn_cQ Y, .object "NoneMayLeave$Shelf")]
def kn_S (Y : kn_Y) (U : State) : Prop := va_K (kn_D Y) vwCl (kn_tys Y) U ∧ (∀ w ∈ nm_NW, va_Nw w U) ∧ va_AO "NoneMayLeave$Shelf" U ∧ Y.2.2.2 ≤ U.heap.size
def kn_FX (Y : kn_Y) (M : nm_M) (F : nm_F) : Prop := match F with
  | (p, _, R, s, m, args, _, meth, c, d, mcT, msT) => p.tables.exec = Jvm.exec ∧ c.code = M.2.1 ∧ meth.sig.returnType = M.2.2.2 ∧ c.maxLocals = M.2.2.1 ∧ s.vm.findClass M.1.cls = some m.cls ∧ (∀ w ∈ nm_WS, w.before args s = true) ∧ kn_S Y s ∧ meth.locks = false ∧ d ≤ R.frames ∧ d * 64 ≤ R.locals ∧ mcT ≤ R.cells ∧ msT ≤ R.slots ∧ (M.1.name = "<init>" → meth.name = "<init>")
def Kn (Y : kn_Y) (M : nm_M) (F : nm_F) (L : List (Nat × Value)) (st : List Value) (pc : Nat) (ws : va_W) (cells slots : Nat) (Q : State → Prop) : Prop := match F with
  | (p, e, R, s, m, args, below, meth, c, d, mcT, msT) => kn_FX Y M (p, e, R, s, m, args, below, meth, c, d, mcT, msT) → ∀ (H : Heap) (locs : List Loc) (ls : Array Slot), va_P (kn_D Y) vwCl ws H → va_D (kn_A Y) ws → va_S (kn_A Y) s.heap H locs → lv_has ls M.2.2.1 L → W p (kn_l Y) e R s m args below meth c H locs cells slots Q (F0 m pc ls st)
def kn_rm (d mc ms : Nat) : Room := { frames := d, cells := mc, slots := ms, locals := d * 64 }
def KC (Y : kn_Y) (M : nm_M) (h c : Nat) (fs0 : List Value) (Pn : Nat → va_W → Prop) (mc ms : Nat) : Prop := ∀ d, h ≤ d → ∀ (h0 : Nat) (rest : va_W), Met (kn_l Y) M.1 (nm_ws M) (kn_rm d mc ms) (va_Pc [.ref h0] (fun U => kn_S Y U ∧ va_P (kn_D Y) vwCl ((h0, .inr (c, fs0)) :: rest) U.heap ∧ va_D (kn_A Y) ((h0, .inr (c, fs0)) :: rest))) (fun _ st o t => o = .returned none ∧ (∃ w, Pn h0 w ∧ va_P (kn_D Y) vwCl (w ++ rest) t.heap ∧ va_D (kn_A Y) (w ++ rest)) ∧ va_F (kn_A Y) st t) mc ms (kn_A Y)
theorem kn_rotP {D : va_G} {cl : List vw_C} {ws : va_W} {x : Nat × va_E} {H : Heap} (h : va_P D cl (ws ++ [x]) H) : va_P D cl (x :: ws) H := by
  have key : ∀ q ∈ ws ++ [x], va_at D cl q H := fun q hq => by
    obtain ⟨k, hk⟩ := List.getElem?_of_mem hq
    exact h k q hk
  intro k q hk
  have hm := List.mem_of_getElem? hk
  refine key q ?_
  rcases List.mem_cons.mp hm with rfl | hm
  · exact List.mem_append_right _ List.mem_cons_self
  · exact List.mem_append_left _ hm
theorem kn_rotD {A : Nat → Prop} {ws : va_W} {x : Nat × va_E} (h : va_D A (ws ++ [x])) : va_D A (x :: ws) := by
  obtain ⟨h1, h2⟩ := h
  have at1 : ∀ (k : Nat) (q : Nat × va_E), (x :: ws)[k]? = some q → (ws ++ [x])[if k = 0 then ws.length else k - 1]? = some q := by
    intro k q hk
    cases k with
    | zero =>
      rw [if_pos rfl]
      rw [List.getElem?_cons_zero] at hk
      rw [List.getElem?_append_right (Nat.le_refl _), Nat.sub_self]
      exact hk
    | succ k =>
      rw [if_neg (by omega)]
      rw [List.getElem?_cons_succ] at hk
      rw [show k + 1 - 1 = k by omega, List.getElem?_append_left (List.getElem?_eq_some_iff.mp hk).1]
      exact hk
  refine ⟨fun i j p q hi hj e => ?_, fun k q hk => h2 _ q (at1 k q hk)⟩
  have e2 := h1 _ _ p q (at1 i p hi) (at1 j q hj) e
  have li : i = 0 ∨ i - 1 < ws.length := by
    cases i with
    | zero => exact Or.inl rfl
    | succ i => rw [List.getElem?_cons_succ] at hi; exact Or.inr (by have := (List.getElem?_eq_some_iff.mp hi).1; omega)
  have lj : j = 0 ∨ j - 1 < ws.length := by
    cases j with
    | zero => exact Or.inl rfl
    | succ j => rw [List.getElem?_cons_succ] at hj; exact Or.inr (by have := (List.getElem?_eq_some_iff.mp hj).1; omega)
  by_cases a : i = 0 <;> by_cases b : j = 0 <;> simp only [a, b, if_true, if_false] at e2 <;> omega
section KNS
variable {Y : kn_Y} {M : nm_M} {F : nm_F} {L : List (Nat × Value)} {st : List Value} {pc : Nat} {ws : va_W} {cells slots : Nat} {Q : State → Prop}
theorem kn_aload_n {j : Fin 4} (i : Nat) {x : Nat} (k : Nat) (hd : decode M.2.1 pc = .ok (.aload_n j, 1)) (hi : (j : Nat) = i) (hg : L[k]? = some (i, .ref x)) (kk : Kn Y M F L (.ref x :: st) (pc + 1) ws cells slots Q) : Kn Y M F L st pc ws cells slots Q := by
  obtain ⟨p, e, R, s, m, args, below, meth, c, d, mcT, msT⟩ := F
  intro hF H locs ls hP hD hS hL
  exact lv_aload_n hF.1 hF.2.1 hd hi (lv_at hL k hg) (kk hF H locs ls hP hD hS hL)
theorem kn_iload_n {j : Fin 4} (i : Nat) {x : Int32} (k : Nat) (hd : decode M.2.1 pc = .ok (.iload_n j, 1)) (hi : (j : Nat) = i) (hg : L[k]? = some (i, .int x)) (kk : Kn Y M F L (.int x :: st) (pc + 1) ws cells slots Q) : Kn Y M F L st pc ws cells slots Q := by
  obtain ⟨p, e, R, s, m, args, below, meth, c, d, mcT, msT⟩ := F
  intro hF H locs ls hP hD hS hL
  exact lv_iload_n hF.1 hF.2.1 hd hi (lv_at hL k hg) (kk hF H locs ls hP hD hS hL)
theorem kn_iconst {n : Int} (x : Int32) (hd : decode M.2.1 pc = .ok (.iconst n, 1)) (hx : Int32.ofInt n = x) (kk : Kn Y M F L (.int x :: st) (pc + 1) ws cells slots Q) : Kn Y M F L st pc ws cells slots Q := by
  obtain ⟨p, e, R, s, m, args, below, meth, c, d, mcT, msT⟩ := F
  intro hF H locs ls hP hD hS hL
  exact lv_iconst hF.1 hF.2.1 hd hx (kk hF H locs ls hP hD hS hL)
theorem kn_bipush {n : Int} (x : Int32) (hd : decode M.2.1 pc = .ok (.bipush n, 2)) (hx : (Int8.ofInt n).toInt32 = x) (kk : Kn Y M F L (.int x :: st) (pc + 2) ws cells slots Q) : Kn Y M F L st pc ws cells slots Q := by
  obtain ⟨p, e, R, s, m, args, below, meth, c, d, mcT, msT⟩ := F
  intro hF H locs ls hP hD hS hL
  exact lv_bipush hF.1 hF.2.1 hd hx (kk hF H locs ls hP hD hS hL)
theorem kn_sipush {n : Int} (x : Int32) (hd : decode M.2.1 pc = .ok (.sipush n, 3)) (hx : (Int16.ofInt n).toInt32 = x) (kk : Kn Y M F L (.int x :: st) (pc + 3) ws cells slots Q) : Kn Y M F L st pc ws cells slots Q := by
  obtain ⟨p, e, R, s, m, args, below, meth, c, d, mcT, msT⟩ := F
  intro hF H locs ls hP hD hS hL
  exact lv_sipush hF.1 hF.2.1 hd hx (kk hF H locs ls hP hD hS hL)
theorem kn_dup {a : Value} (hd : decode M.2.1 pc = .ok (.dup, 1)) (hc : a.category = 1) (kk : Kn Y M F L (a :: a :: st) (pc + 1) ws cells slots Q) : Kn Y M F L (a :: st) pc ws cells slots Q := by
  obtain ⟨p, e, R, s, m, args, below, meth, c, d, mcT, msT⟩ := F
  intro hF H locs ls hP hD hS hL
  exact lv_dup hF.1 hF.2.1 hd hc (kk hF H locs ls hP hD hS hL)
theorem kn_astore_n {j : Fin 4} (i : Nat) {x : Nat} (L' : List (Nat × Value)) (hd : decode M.2.1 pc = .ok (.astore_n j, 1)) (hi : (j : Nat) = i) (hn : Nat.ble (i + 1) M.2.2.1 = true) (hl : (i, Value.ref x) :: L.filter (fun q => !(q.1 == i) && !(q.1 + 1 == i && q.2.category == 2)) = L') (kk : Kn Y M F L' st (pc + 1) ws cells slots Q) : Kn Y M F L (.ref x :: st) pc ws cells slots Q := by
  obtain ⟨p, e, R, s, m, args, below, meth, c, d, mcT, msT⟩ := F
  intro hF H locs ls hP hD hS hL
  exact lv_astore_n hF.1 hF.2.1 hd hi hL (Nat.le_of_ble_eq_true hn) hl (fun ls2 hl2 => kk hF H locs ls2 hP hD hS hl2)
theorem kn_istore_n {j : Fin 4} (i : Nat) {x : Int32} (L' : List (Nat × Value)) (hd : decode M.2.1 pc = .ok (.istore_n j, 1)) (hi : (j : Nat) = i) (hn : Nat.ble (i + 1) M.2.2.1 = true) (hl : (i, Value.int x) :: L.filter (fun q => !(q.1 == i) && !(q.1 + 1 == i && q.2.category == 2)) = L') (kk : Kn Y M F L' st (pc + 1) ws cells slots Q) : Kn Y M F L (.int x :: st) pc ws cells slots Q := by
  obtain ⟨p, e, R, s, m, args, below, meth, c, d, mcT, msT⟩ := F
  intro hF H locs ls hP hD hS hL
  exact lv_istore_n hF.1 hF.2.1 hd hi hL (Nat.le_of_ble_eq_true hn) hl (fun ls2 hl2 => kk hF H locs ls2 hP hD hS hl2)
theorem kn_iinc {i : Nat} {n : Int} (k : Nat) {x : Int32} (y : Int32) (L' : List (Nat × Value)) (hd : decode M.2.1 pc = .ok (.iinc i n, 3)) (hk : L[k]? = some (i, .int x)) (hv : x + Int32.ofInt n = y) (hn : Nat.ble (i + 1) M.2.2.1 = true) (hl : (i, Value.int y) :: L.filter (fun q => !(q.1 == i) && !(q.1 + 1 == i && q.2.category == 2)) = L') (kk : Kn Y M F L' st (pc + 3) ws cells slots Q) : Kn Y M F L st pc ws cells slots Q := by
  obtain ⟨p, e, R, s, m, args, below, meth, c, d, mcT, msT⟩ := F
  intro hF H locs ls hP hD hS hL
  exact lv_iinc hF.1 hF.2.1 hd hL hk hv (Nat.le_of_ble_eq_true hn) hl (fun ls2 hl2 => kk hF H locs ls2 hP hD hS hl2)
theorem kn_goto {off : Int} (tgt : Nat) (hd : decode M.2.1 pc = .ok (.goto off, 3)) (ht : (pc : Int) + off = (tgt : Int)) (kk : Kn Y M F L st tgt ws cells slots Q) : Kn Y M F L st pc ws cells slots Q := by
  obtain ⟨p, e, R, s, m, args, below, meth, c, d, mcT, msT⟩ := F
  intro hF H locs ls hP hD hS hL
  exact lv_goto hF.1 hF.2.1 hd ht (kk hF H locs ls hP hD hS hL)
/-- a counter's test, of known numbers -/
theorem kn_geT {x y : Int32} {off : Int} (tgt : Nat) (hd : decode M.2.1 pc = .ok (.if_icmp .ge off, 3)) (ht : (pc : Int) + off = (tgt : Int)) (h : y ≤ x) (kk : Kn Y M F L st tgt ws cells slots Q) : Kn Y M F L (.int y :: .int x :: st) pc ws cells slots Q := by
  obtain ⟨p, e, R, s, m, args, below, meth, c, d, mcT, msT⟩ := F
  intro hF H locs ls hP hD hS hL
  exact lv_icmp_ge hF.1 hF.2.1 hd ht (fun _ => kk hF H locs ls hP hD hS hL) (fun q => absurd h q)
theorem kn_geF {x y : Int32} {off : Int} (tgt : Nat) (hd : decode M.2.1 pc = .ok (.if_icmp .ge off, 3)) (ht : (pc : Int) + off = (tgt : Int)) (h : ¬ y ≤ x) (kk : Kn Y M F L st (pc + 3) ws cells slots Q) : Kn Y M F L (.int y :: .int x :: st) pc ws cells slots Q := by
  obtain ⟨p, e, R, s, m, args, below, meth, c, d, mcT, msT⟩ := F
  intro hF H locs ls hP hD hS hL
  exact lv_icmp_ge hF.1 hF.2.1 hd ht (fun q => absurd q h) (fun _ => kk hF H locs ls hP hD hS hL)
theorem kn_eq {ws' : va_W} (h : ws = ws') (kk : Kn Y M F L st pc ws' cells slots Q) : Kn Y M F L st pc ws cells slots Q := h ▸ kk
theorem kn_obj {a : Nat} {i : Nat} (hl : Cond.methodLink M.1.cls i Lib.objectInit ∈ nm_WS) (hin : Cond.instanceMethod Lib.objectInit ∈ nm_WS) (hco : Cond.code Lib.objectInit ⟨#[0xb1]⟩ 1 none ∈ nm_WS) (hh : 1 ≤ nm_d F) (hd : decode M.2.1 pc = .ok (.invokespecial i, 3)) (kk : Kn Y M F L [] (pc + 3) ws cells slots Q) : Kn Y M F L [.ref a] pc ws cells slots Q := by
  obtain ⟨p, e, R, s, m, args, below, meth, c, d, mcT, msT⟩ := F
  intro hF H locs ls hP hD hS hL
  have hh : 1 ≤ d := hh
  have h1 := hF.2.2.2.2.2.2.2.2.1
  have h2 := hF.2.2.2.2.2.2.2.2.2.1
  refine W.objInit hF.1 hF.2.1 hF.2.2.2.2.1 (hF.2.2.2.2.2.1 _ hl) (hF.2.2.2.2.2.1 _ hin) (hF.2.2.2.2.2.1 _ hco) rfl (hL.1.trans hF.2.2.2.1.symm) rfl hd (Nat.le_trans hh h1) ?_ (kk hF H locs ls hP hD hS hL)
  show 2 * 0 + 0 + 12 ≤ _
  omega
theorem kn_putF {C : String} {T : u_T} {N t j i o q0 : Nat} {fs : List Value} {ty : FieldType} {v : Value} (ty0 : Nat → FieldType) (hty : ∀ k, k < N → parseFieldDescriptor (T k).2.2.1 = some (ty0 k)) (hnm : ∀ a, a < N → ∀ b, b < N → a ≠ b → (T a).2.1 ≠ (T b).2.1) (hc : vwCl[t]? = some (C, T, N)) (hin : ∀ w ∈ u_ws C T N, w ∈ nm_WS) (hj : j < N) (he : ws[q0]? = some (o, .inr (t, fs))) (hfin : (T j).2.2.2 = true) (hnam : M.1.name = "<init>") (hdecl : (T j).1 = M.1.cls) (hpd : parseFieldDescriptor (T j).2.2.1 = some ty) (hn : narrow ty v = v) (hfit : fits ty v = true) (hl : j < fs.length) (hw : Cond.fieldLink M.1.cls i (T j).1 (T j).2.1 (T j).2.2.1 ∈ nm_WS) (hd : decode M.2.1 pc = .ok (.putfield i, 3)) (kk : Kn Y M F L st (pc + 3) (ws.set q0 (o, .inr (t, fs.set j v))) cells slots Q) : Kn Y M F L (v :: .ref o :: st) pc ws cells slots Q := by
  obtain ⟨p, e, R, s, m, args, below, meth, c, d, mcT, msT⟩ := F
  intro hF H locs ls hP hD hS hL
  exact va_putF hF.1 hF.2.1 hF.2.2.2.2.2.1 hin ty0 hty hnm hF.2.2.2.2.1 hF.2.2.2.2.2.2.1.1 hP hD hS q0 he hc j hj (hF.2.2.2.2.2.1 _ hw) (fun _ h => h) hfin (hF.2.2.2.2.2.2.2.2.2.2.2.2 hnam) hdecl hpd hn hfit hl hd (fun H1 locs1 hP1 hD1 hS1 => kk hF H1 locs1 ls hP1 hD1 hS1 hL)
theorem kn_put {C : String} {T : u_T} {N t j i o q0 : Nat} {fs : List Value} {ty : FieldType} {v : Value} (ty0 : Nat → FieldType) (hty : ∀ k, k < N → parseFieldDescriptor (T k).2.2.1 = some (ty0 k)) (hnm : ∀ a, a < N → ∀ b, b < N → a ≠ b → (T a).2.1 ≠ (T b).2.1) (hc : vwCl[t]? = some (C, T, N)) (hin : ∀ w ∈ u_ws C T N, w ∈ nm_WS) (hj : j < N) (he : ws[q0]? = some (o, .inr (t, fs))) (hfin : (T j).2.2.2 = false) (hpd : parseFieldDescriptor (T j).2.2.1 = some ty) (hn : narrow ty v = v) (hfit : fits ty v = true) (hl : j < fs.length) (hw : Cond.fieldLink M.1.cls i (T j).1 (T j).2.1 (T j).2.2.1 ∈ nm_WS) (hd : decode M.2.1 pc = .ok (.putfield i, 3)) (kk : Kn Y M F L st (pc + 3) (ws.set q0 (o, .inr (t, fs.set j v))) cells slots Q) : Kn Y M F L (v :: .ref o :: st) pc ws cells slots Q := by
  obtain ⟨p, e, R, s, m, args, below, meth, c, d, mcT, msT⟩ := F
  intro hF H locs ls hP hD hS hL
  exact va_put hF.1 hF.2.1 hF.2.2.2.2.2.1 hin ty0 hty hnm hF.2.2.2.2.1 hF.2.2.2.2.2.2.1.1 hP hD hS q0 he hc j hj (hF.2.2.2.2.2.1 _ hw) (fun _ h => h) hfin hpd hn hfit hl hd (fun H1 locs1 hP1 hD1 hS1 => kk hF H1 locs1 ls hP1 hD1 hS1 hL)
theorem kn_getR {C : String} {T : u_T} {N t j i o q0 : Nat} {fs : List Value} {v : Value} (hc : vwCl[t]? = some (C, T, N)) (hin : ∀ w ∈ u_ws C T N, w ∈ nm_WS) (hj : j < N) (he : ws[q0]? = some (o, .inr (t, fs))) (hv : fs[j]? = some v) (hw : Cond.fieldLink M.1.cls i (T j).1 (T j).2.1 (T j).2.2.1 ∈ nm_WS) (hd : decode M.2.1 pc = .ok (.getfield i, 3)) (kk : Kn Y M F L (v :: st) (pc + 3) ws cells slots Q) : Kn Y M F L (.ref o :: st) pc ws cells slots Q := by
  obtain ⟨p, e, R, s, m, args, below, meth, c, d, mcT, msT⟩ := F
  intro hF H locs ls hP hD hS hL
  exact va_get hF.1 hF.2.1 hF.2.2.2.2.2.1 hin hF.2.2.2.2.1 hF.2.2.2.2.2.2.1.1 hP q0 he hc j hj (hF.2.2.2.2.2.1 _ hw) (fun _ h => h) hv hd (kk hF H locs ls hP hD hS hL)
theorem kn_hA {Y : kn_Y} {s : State} (h : kn_S Y s) : ∀ q, s.heap.size ≤ q → kn_A Y q := fun _ hq => Nat.le_trans h.2.2.2 hq
theorem kn_new {C : String} {T : u_T} {N ci i : Nat} {fs : List Value} (ty : Nat → FieldType) (hty : ∀ k, k < N → parseFieldDescriptor (T k).2.2.1 = some (ty k)) (hc : vwCl[ci]? = some (C, T, N)) (hin : ∀ w ∈ u_ws C T N, w ∈ nm_WS) (hcl : Cond.classLink M.1.cls i C ∈ nm_WS) (hinst : Cond.instantiable C N ∈ nm_WS) (hini : Cond.initialized C ∈ nm_WS) (hfs : ∀ j, j < N → defaultValue (ty j) = vp_V fs j) (hcells : cells + 1 ≤ F.2.2.2.2.2.2.2.2.2.2.1) (hslots : slots + N ≤ F.2.2.2.2.2.2.2.2.2.2.2) (hd : decode M.2.1 pc = .ok (.new i, 3)) (kk : ∀ q, Kn Y M F L (.ref q :: st) (pc + 3) ((q, .inr (ci, fs)) :: ws) (cells + 1) (slots + N) Q) : Kn Y M F L st pc ws cells slots Q := by
  obtain ⟨p, e, R, s, m, args, below, meth, c, d, mcT, msT⟩ := F
  intro hF H locs ls hP hD hS hL
  exact va_new hF.1 hF.2.1 hF.2.2.2.2.2.1 hin ty hty hF.2.2.2.2.1 (hF.2.2.2.2.2.1 _ hcl) (hF.2.2.2.2.2.1 _ hinst) (hF.2.2.2.2.2.1 _ hini) hF.2.2.2.2.2.2.1.1 hP hD hS (kn_hA hF.2.2.2.2.2.2.1) hc hfs (Nat.le_trans hcells hF.2.2.2.2.2.2.2.2.2.2.1) (Nat.le_trans hslots hF.2.2.2.2.2.2.2.2.2.2.2.1) hd (fun q H1 hP1 hD1 hS1 => kk q hF H1 locs ls (kn_rotP hP1) (kn_rotD hD1) hS1 hL)
theorem kn_cls {D : va_G} {tys : List (ClassId × FieldType)} {U : State} {a b : ClassId} {ty : FieldType} {i j : Nat} (hK : va_K D vwCl tys U) (hi : tys[i]? = some (a, ty)) (hj : tys[j]? = some (b, ty)) : a = b := by
  have h1 := (hK.2 i _ hi).2
  have h2 := (hK.2 j _ hj).2
  cases ty with
  | object C =>
    obtain ⟨-, -, -, -, -, e1⟩ := h1
    obtain ⟨-, -, -, -, -, e2⟩ := h2
    rw [e1] at e2
    exact Option.some.inj e2
  | _ =>
    have e1 : U.vm.findClass _ = some a := h1
    have e2 : U.vm.findClass _ = some b := h2
    rw [e1] at e2
    exact Option.some.inj e2
theorem kn_newI {n : Int32} (N : Nat) (hw : Cond.arrayClass .int ∈ nm_WS) (hn : ¬ n < 0) (hN : n.toNatClampNeg = N) (hbytes : N * 4 ≤ 536870912) (hcells : cells + 1 ≤ F.2.2.2.2.2.2.2.2.2.2.1) (hslots : slots + N ≤ F.2.2.2.2.2.2.2.2.2.2.2) (hd : decode M.2.1 pc = .ok (.newarray .int, 2)) (kk : ∀ q, Kn Y M F L (.ref q :: st) (pc + 2) ((q, .inl (kn_cI Y, (N, .inl (fun _ => 0)))) :: ws) (cells + 1) (slots + N) Q) : Kn Y M F L (.int n :: st) pc ws cells slots Q := by
  obtain ⟨p, e, R, s, m, args, below, meth, c, d, mcT, msT⟩ := F
  intro hF H locs ls hP hD hS hL
  refine va_newa (atype := .int) (a0 := (N, .inl (fun _ => 0))) hF.1 hF.2.1 (hF.2.2.2.2.2.1 _ hw) rfl hF.2.2.2.2.2.2.1.1 hP hD hS (kn_hA hF.2.2.2.2.2.2.1) (fun _ => rfl) hn hN hbytes (Nat.le_trans hcells hF.2.2.2.2.2.2.2.2.2.2.1) (Nat.le_trans hslots hF.2.2.2.2.2.2.2.2.2.2.2.1) hd (fun q cA H1 hK1 hP1 hD1 hS1 => ?_)
  have e : kn_cI Y = cA := kn_cls (i := 0) (j := 3) hK1 rfl rfl
  subst e
  exact kk q hF H1 locs ls (kn_rotP hP1) (kn_rotD hD1) hS1 hL
theorem kn_newJ {n : Int32} (N : Nat) (hw : Cond.arrayClass .long ∈ nm_WS) (hn : ¬ n < 0) (hN : n.toNatClampNeg = N) (hbytes : N * 8 ≤ 536870912) (hcells : cells + 1 ≤ F.2.2.2.2.2.2.2.2.2.2.1) (hslots : slots + N ≤ F.2.2.2.2.2.2.2.2.2.2.2) (hd : decode M.2.1 pc = .ok (.newarray .long, 2)) (kk : ∀ q, Kn Y M F L (.ref q :: st) (pc + 2) ((q, .inl (kn_cJ Y, (N, .inr (.inl (fun _ => 0))))) :: ws) (cells + 1) (slots + N) Q) : Kn Y M F L (.int n :: st) pc ws cells slots Q := by
  obtain ⟨p, e, R, s, m, args, below, meth, c, d, mcT, msT⟩ := F
  intro hF H locs ls hP hD hS hL
  refine va_newa (atype := .long) (a0 := (N, .inr (.inl (fun _ => 0)))) hF.1 hF.2.1 (hF.2.2.2.2.2.1 _ hw) rfl hF.2.2.2.2.2.2.1.1 hP hD hS (kn_hA hF.2.2.2.2.2.2.1) (fun _ => rfl) hn hN hbytes (Nat.le_trans hcells hF.2.2.2.2.2.2.2.2.2.2.1) (Nat.le_trans hslots hF.2.2.2.2.2.2.2.2.2.2.2.1) hd (fun q cA H1 hK1 hP1 hD1 hS1 => ?_)
  have e : kn_cJ Y = cA := kn_cls (i := 1) (j := 3) hK1 rfl rfl
  subst e
  exact kk q hF H1 locs ls (kn_rotP hP1) (kn_rotD hD1) hS1 hL
theorem kn_newQ {n : Int32} {i : Nat} (N : Nat) (hcl : Cond.classLink M.1.cls i "NoneMayLeave$Shelf" ∈ nm_WS) (hn : ¬ n < 0) (hN : n.toNatClampNeg = N) (hbytes : N * 4 ≤ 536870912) (hcells : cells + 1 ≤ F.2.2.2.2.2.2.2.2.2.2.1) (hslots : slots + N ≤ F.2.2.2.2.2.2.2.2.2.2.2) (hd : decode M.2.1 pc = .ok (.anewarray i, 3)) (kk : ∀ q, Kn Y M F L (.ref q :: st) (pc + 3) ((q, .inl (kn_cQ Y, (N, .inr (.inr (.inr (.inr (fun _ => none))))))) :: ws) (cells + 1) (slots + N) Q) : Kn Y M F L (.int n :: st) pc ws cells slots Q := by
  obtain ⟨p, e, R, s, m, args, below, meth, c, d, mcT, msT⟩ := F
  intro hF H locs ls hP hD hS hL
  refine va_newq hF.1 hF.2.1 hF.2.2.2.2.1 (hF.2.2.2.2.2.1 _ hcl) hF.2.2.2.2.2.2.1.2.2.1 hF.2.2.2.2.2.2.1.1 hP hD hS (kn_hA hF.2.2.2.2.2.2.1) hn hN hbytes (Nat.le_trans hcells hF.2.2.2.2.2.2.2.2.2.2.1) (Nat.le_trans hslots hF.2.2.2.2.2.2.2.2.2.2.2.1) hd (fun q cA H1 hK1 hP1 hD1 hS1 => ?_)
  have e : kn_cQ Y = cA := kn_cls (i := 2) (j := 3) hK1 rfl rfl
  subst e
  exact kk q hF H1 locs ls (kn_rotP hP1) (kn_rotD hD1) hS1 hL
theorem kn_iastore {q q0 n : Nat} {f : Nat → Int32} {i x : Int32} (j : Nat) (he : ws[q0]? = some (q, .inl (kn_cI Y, (n, .inl f)))) (hin : vp_in i n) (hj : i.toNatClampNeg = j) (hd : decode M.2.1 pc = .ok (.iastore, 1)) (kk : Kn Y M F L st (pc + 1) (ws.set q0 (q, .inl (kn_cI Y, (n, .inl (upd f j x))))) cells slots Q) : Kn Y M F L (.int x :: .int i :: .ref q :: st) pc ws cells slots Q := by
  obtain ⟨p, e, R, s, m, args, below, meth, c, d, mcT, msT⟩ := F
  intro hF H locs ls hP hD hS hL
  subst hj
  exact va_iast hF.1 hF.2.1 hF.2.2.2.2.2.2.1.1 hP hD hS q0 0 he rfl hin hd (fun H1 locs1 hP1 hD1 hS1 => kk hF H1 locs1 ls hP1 hD1 hS1 hL)
theorem kn_aastore {q q0 n qk v : Nat} {vs : List Value} {f : Nat → Option Nat} {i : Int32} (j : Nat) (he : ws[q0]? = some (q, .inl (kn_cQ Y, (n, .inr (.inr (.inr (.inr f))))))) (hv : ws[qk]? = some (v, .inr (4, vs))) (hin : vp_in i n) (hj : i.toNatClampNeg = j) (hd : decode M.2.1 pc = .ok (.aastore, 1)) (kk : Kn Y M F L st (pc + 1) (ws.set q0 (q, .inl (kn_cQ Y, (n, .inr (.inr (.inr (.inr (va_up f j (some v)))))))))  cells slots Q) : Kn Y M F L (.ref v :: .int i :: .ref q :: st) pc ws cells slots Q := by
  obtain ⟨p, e, R, s, m, args, below, meth, c, d, mcT, msT⟩ := F
  intro hF H locs ls hP hD hS hL
  subst hj
  exact va_astq (r := (RX4, TX4, 5)) hF.1 hF.2.1 hF.2.2.2.2.2.2.1.1 hP hD hS q0 2 qk 4 he rfl hv rfl hin hd (fun H1 locs1 hP1 hD1 hS1 => kk hF H1 locs1 ls hP1 hD1 hS1 hL)
end KNS
def kn_Q (Y : kn_Y) (Pn : Nat → va_W → Prop) (h0 : Nat) (rest : va_W) : Array Value → State → Outcome → State → Prop := fun _ st o t => o = .returned none ∧ (∃ w, Pn h0 w ∧ va_P (kn_D Y) vwCl (w ++ rest) t.heap ∧ va_D (kn_A Y) (w ++ rest)) ∧ va_F (kn_A Y) st t
def kn_Qf (Y : kn_Y) (F : nm_F) (Pn : Nat → va_W → Prop) (h0 : Nat) (rest : va_W) (mc ms : Nat) : State → Prop := match F with
  | (_, _, _, s, _, args, below, _, _, _, _, _) => MQ below (kn_Q Y Pn h0 rest) args s mc ms (kn_A Y)
theorem kn_S_step {Y : kn_Y} {u U : State} (hW : u.WarmedH U.vm) (hz : u.heap.size ≤ U.heap.size) (h : kn_S Y u) : kn_S Y U :=
  ⟨va_K.moved hW.alike h.1, nm_NW_step hW h.2.1, va_AO.moved hW.alike h.2.2.1, Nat.le_trans h.2.2.2 hz⟩
theorem kn_ret {Y : kn_Y} {M : nm_M} {F : nm_F} {L : List (Nat × Value)} {pc : Nat} {ws rest : va_W} {cells slots mc ms h0 : Nat} {Pn : Nat → va_W → Prop} (w : va_W) (hret : M.2.2.2 = none) (hd : decode M.2.1 pc = .ok (.return_, 1)) (hw : ws = w ++ rest) (hPn : Pn h0 w) (hc : cells = mc) (hs : slots = ms) : Kn Y M F L [] pc ws cells slots (kn_Qf Y F Pn h0 rest mc ms) := by
  subst hc; subst hs; subst hw
  obtain ⟨p, e, R, s, m, args, below, meth, c, d, mcT, msT⟩ := F
  intro hF H locs ls hP hD hS hL
  exact W.vret hF.1 hF.2.1 (hF.2.2.1.trans hret) (fun t ht hW => ⟨rfl, ⟨w, hPn, by rw [ht]; exact hP, hD⟩, hS.F ht⟩) hS.2.2 hd hF.2.2.2.2.2.2.2.1
theorem KC.of {Y : kn_Y} {M : nm_M} {h c : Nat} {fs0 : List Value} {Pn : Nat → va_W → Prop} {mc ms : Nat} (hpl : plainName M.1.cls = true) (hwid : Nat.ble 1 M.2.2.1 = true) (body : ∀ (F : nm_F) (h0 : Nat) (rest : va_W), h ≤ nm_d F → F.2.2.2.2.2.2.2.2.2.2.1 = mc → F.2.2.2.2.2.2.2.2.2.2.2 = ms → Kn Y M F [(0, .ref h0)] [] 0 ((h0, .inr (c, fs0)) :: rest) 0 0 (kn_Qf Y F Pn h0 rest mc ms)) : KC Y M h c fs0 Pn mc ms := by
  intro d hd h0 rest
  refine Met.ofW (cc := M.2.1) (maxL := M.2.2.1) (ret := M.2.2.2) hpl rfl ?_
  intro p e s m ar below meth c0 s₁ B hml hv
  obtain ⟨rfl, hS, hP, hD⟩ := hv
  have hts := atoms_spec (ws := nm_ws M) B.pre
  have hown : s.vm.findClass M.1.cls = some m.cls := findClass_of_methodNamed B.named
  have hl := lv_entry ([.ref h0]) (n := M.2.2.1) (Nat.le_of_ble_eq_true hwid)
  have k := body (p, e, kn_rm d mc ms, s, m, ([.ref h0] : List Value).toArray, below, meth, c0, d, mc, ms) h0 rest hd rfl rfl ⟨B.exec, B.bytes, B.returns, hml, hown, fun w hw => hts w (List.mem_cons_of_mem _ hw), hS, B.notSynchronized, Nat.le_refl _, Nat.le_refl _, Nat.le_refl _, Nat.le_refl _, fun hq => (name_of_methodNamed B.named B.method).1.trans hq⟩ s.heap [] _ hP hD va_S.rf hl
  rw [lg_entry_eq]
  exact k
theorem kn_roomy {R : Room} {d n mc ms : Nat} (hd1 : d ≤ R.frames) (hd2 : d * 64 ≤ R.locals) (hd : 1 ≤ d) (hn : n ≤ 40) : (kn_rm (d - 1) mc ms).frames + 1 ≤ R.frames ∧ 8 + (n + 11) + (kn_rm (d - 1) mc ms).locals ≤ R.locals := by
  unfold kn_rm
  dsimp only
  omega
theorem kn_blind {Y : kn_Y} {av : List Value} {ws : va_W} : FrameBlind (va_Pc av (fun U => kn_S Y U ∧ va_P (kn_D Y) vwCl ws U.heap ∧ va_D (kn_A Y) ws)) := by
  intro a U g mk h
  refine ⟨h.1, kn_S_step (u := U) (U := U.calling g mk a) (State.WarmedH.refl U) (Nat.le_refl _) h.2.1, h.2.2.1, h.2.2.2⟩
/-- behind a constructor's call -/
theorem kn_after {Y : kn_Y} {M : nm_M} {L : List (Nat × Value)} {st : List Value} {pc : Nat} {rest : va_W} {cells slots mc ms h0 : Nat} {Pn : Nat → va_W → Prop} {Q : State → Prop} {p : Program} {e : Env} {R : Room} {s : State} {m : MethodId} {args : Array Value} {below : List Frame} {meth : Method} {c : Code} {d mcT msT : Nat} {av : Array Value} {H : Heap} {locs : List Loc} {ls : Array Slot} {stk : List Value}
    (hr : va_Run p (kn_l Y) e R s m args below meth c H locs cells slots mc ms (F0 m pc ls stk) st (kn_Q Y Pn h0 rest av) (kn_A Y)) (hS : va_S (kn_A Y) s.heap H locs) (hL : lv_has ls M.2.2.1 L) (hF : kn_FX Y M (p, e, R, s, m, args, below, meth, c, d, mcT, msT))
    (k : ∀ w, Pn h0 w → Kn Y M (p, e, R, s, m, args, below, meth, c, d, mcT, msT) L st (pc + 3) (w ++ rest) (cells + mc) (slots + ms) Q) : W p (kn_l Y) e R s m args below meth c H locs cells slots Q (F0 m pc ls stk) := by
  intro T hT XS
  obtain ⟨v, st₀, t, T', Ls, g0, X', hLs, e1, e2, ⟨hv, ⟨w, hw, hP, hD⟩, hz, hk⟩, stp⟩ := hr T hT XS
  cases hv
  rw [g0] at hz hk
  have hS2 : va_S (kn_A Y) s.heap T'.heap (locs ++ Ls) := by
    refine ⟨Nat.le_trans hS.1 (by rw [e1]; exact hz), fun q h1 h2 => ?_, fun q hq => ?_⟩
    · rw [e1, hk q (Nat.lt_of_lt_of_le h1 hS.1) h2]
      exact hS.2.1 q h1 h2
    · rcases List.mem_append.mp hq with h | h
      · exact hS.2.2 q h
      · exact hLs q h
  obtain ⟨t2, a1, b1⟩ := k w hw hF T'.heap (locs ++ Ls) ls (by rw [e1]; exact hP) hD hS2 hL T' rfl X'
  exact ⟨t2, stp t2 a1, b1⟩
theorem kn_pre {Y : kn_Y} {s : State} {H : Heap} {av : List Value} {locs : List Loc} {ws : va_W} (hP : va_P (kn_D Y) vwCl ws H) (hD : va_D (kn_A Y) ws) (hS : va_S (kn_A Y) s.heap H locs) (hK : kn_S Y s) : ∀ U : State, U.heap = H → s.WarmedH U.vm → va_Pc av (fun U => kn_S Y U ∧ va_P (kn_D Y) vwCl ws U.heap ∧ va_D (kn_A Y) ws) av.toArray U := by
  intro U hU hW
  exact ⟨rfl, kn_S_step hW (by rw [hU]; exact hS.1) hK, by rw [hU]; exact hP, hD⟩
section KNC
variable {Y : kn_Y} {M M2 : nm_M} {F : nm_F} {L : List (Nat × Value)} {st : List Value} {pc : Nat} {rest : va_W} {cells slots mc ms : Nat} {Q : State → Prop} {Pn : Nat → va_W → Prop}
theorem kn_callN (host : String) {h2 i h0 c2 : Nat} {fs0 : List Value} (hC : KC Y M2 h2 c2 fs0 Pn mc ms) (hh : h2 + 1 ≤ nm_d F) (cw : nm_CW M2 0) (hl : Cond.methodLinkNest M.1.cls i M2.1 host ∈ nm_NW) (hin : Cond.instanceMethod M2.1 ∈ nm_WS) (hnm : M2.1.name = "<init>") (hret : M2.2.2.2 = none) (hcells : cells + mc ≤ F.2.2.2.2.2.2.2.2.2.2.1) (hslots : slots + ms ≤ F.2.2.2.2.2.2.2.2.2.2.2) (hcat : (st.map fun v => v.category).sum ≤ 8) (hd : decode M.2.1 pc = .ok (.invokespecial i, 3)) (kk : ∀ w, Pn h0 w → Kn Y M F L st (pc + 3) (w ++ rest) (cells + mc) (slots + ms) Q) : Kn Y M F L (.ref h0 :: st) pc ((h0, .inr (c2, fs0)) :: rest) cells slots Q := by
  obtain ⟨p, e, R, s, m, args, below, meth, c, d, mcT, msT⟩ := F
  intro hF H locs ls hP hD hS hL
  obtain ⟨hx, hb, hrt, hml, hown, hts, hK, hlk, hdf, hdl, hce, hsl, hnam⟩ := id hF
  obtain ⟨cw1, cw2, cw3, cw4⟩ := cw
  have hh : h2 + 1 ≤ d := hh
  have hM := hC (d - 1) (by omega) h0 rest
  have hroom := kn_roomy (mc := mc) (ms := ms) hdf hdl (show 1 ≤ d by omega) (Nat.le_of_ble_eq_true cw4)
  have CB : va_CN R s args M.1.cls i M2.1 host M2.2.1 M2.2.2.1 none (nm_ws M2) (kn_rm (d - 1) mc ms) mc ms 0 := va_cnB 0 hts (nm_good M2 cw1) (by unfold nm_ws; rw [hret]) rfl rfl (hK.2.1 _ hl) (hts _ cw3) ⟨cw2.1, cw2.2.1, cw2.2.2⟩ hroom
  exact kn_after (va_runIN (As := []) (b := h0) ⟨hx, hb, hml, hown, hts⟩ hM ⟨CB, hnm, hts _ hin⟩ ⟨kn_blind, kn_pre (av := [.ref h0]) hP hD hS hK⟩ rfl rfl hL.1 rfl (lv_room hcat) hd ⟨Nat.le_trans hcells hce, Nat.le_trans hslots hsl⟩) hS hL hF kk
theorem kn_call {h2 i h0 c2 : Nat} {fs0 : List Value} (hC : KC Y M2 h2 c2 fs0 Pn mc ms) (hh : h2 + 1 ≤ nm_d F) (cw : nm_CW M2 0) (hl : Cond.methodLink M.1.cls i M2.1 ∈ nm_WS) (hin : Cond.instanceMethod M2.1 ∈ nm_WS) (hnm : M2.1.name = "<init>") (hret : M2.2.2.2 = none) (hcells : cells + mc ≤ F.2.2.2.2.2.2.2.2.2.2.1) (hslots : slots + ms ≤ F.2.2.2.2.2.2.2.2.2.2.2) (hcat : (st.map fun v => v.category).sum ≤ 8) (hd : decode M.2.1 pc = .ok (.invokespecial i, 3)) (kk : ∀ w, Pn h0 w → Kn Y M F L st (pc + 3) (w ++ rest) (cells + mc) (slots + ms) Q) : Kn Y M F L (.ref h0 :: st) pc ((h0, .inr (c2, fs0)) :: rest) cells slots Q := by
  obtain ⟨p, e, R, s, m, args, below, meth, c, d, mcT, msT⟩ := F
  intro hF H locs ls hP hD hS hL
  obtain ⟨hx, hb, hrt, hml, hown, hts, hK, hlk, hdf, hdl, hce, hsl, hnam⟩ := id hF
  obtain ⟨cw1, cw2, cw3, cw4⟩ := cw
  have hh : h2 + 1 ≤ d := hh
  have hM := hC (d - 1) (by omega) h0 rest
  have hroom := kn_roomy (mc := mc) (ms := ms) hdf hdl (show 1 ≤ d by omega) (Nat.le_of_ble_eq_true cw4)
  have CB : CallB R s args M.1.cls i M2.1 M2.2.1 M2.2.2.1 none (nm_ws M2) (kn_rm (d - 1) mc ms) mc ms 0 := callB_of 0 hts (nm_good M2 cw1) (by unfold nm_ws; rw [hret]) rfl rfl (hts _ cw3) (hts _ hl) ⟨cw2.1, cw2.2.1, cw2.2.2⟩ hroom
  exact kn_after (va_runI (As := []) (b := h0) ⟨hx, hb, hml, hown, hts⟩ hM ⟨CB, hnm, hts _ hin⟩ ⟨kn_blind, kn_pre (av := [.ref h0]) hP hD hS hK⟩ rfl rfl hL.1 rfl (lv_room hcat) hd ⟨Nat.le_trans hcells hce, Nat.le_trans hslots hsl⟩) hS hL hF kk
end KNC
