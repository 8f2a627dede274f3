/-- a run of a law of which the pure part says that it answers 1 -/
def st_pure : Prop := ∀ (X : nm_X), nm_L X ≤ 3072 → ∃ τ, La_law X st_0 = some (1, τ)
theorem st_cls {args : Array Value} {s : State} (hts : ∀ w ∈ lw_tbl, w.before args s = true) : ∃ (D : va_G) (cI cJ cQ : ClassId), va_K D vwCl [(cI, .int), (cJ, .long), (cQ, .object "NoneMayLeave$Shelf")] s := by
  obtain ⟨c0, i0, k0⟩ := u_known (C := RX0) (T := TX0) (N := 5) (n := 5) hts (fun w h => (List.mem_filter.mp (nm_nd0 w h)).1) (hts _ (List.mem_of_getElem? (i := 181) (by decide +kernel)))
  obtain ⟨c1, i1, k1⟩ := u_known (C := RX1) (T := TX1) (N := 12) (n := 12) hts (fun w h => (List.mem_filter.mp (nm_nd1 w h)).1) (hts _ (List.mem_of_getElem? (i := 106) (by decide +kernel)))
  obtain ⟨c2, i2, k2⟩ := u_known (C := RX2) (T := TX2) (N := 5) (n := 5) hts (fun w h => (List.mem_filter.mp (nm_nd2 w h)).1) (hts _ (List.mem_of_getElem? (i := 240) (by decide +kernel)))
  obtain ⟨c3, i3, k3⟩ := u_known (C := RX3) (T := TX3) (N := 4) (n := 4) hts (fun w h => (List.mem_filter.mp (nm_nd3 w h)).1) (hts _ (List.mem_of_getElem? (i := 162) (by decide +kernel)))
  obtain ⟨c4, i4, k4⟩ := u_known (C := RX4) (T := TX4) (N := 5) (n := 5) hts (fun w h => (List.mem_filter.mp (nm_nd4 w h)).1) (hts _ (List.mem_of_getElem? (i := 262) (by decide +kernel)))
  obtain ⟨c5, i5, k5⟩ := u_known (C := RX5) (T := TX5) (N := 7) (n := 7) hts (fun w h => (List.mem_filter.mp (nm_nd5 w h)).1) (hts _ (List.mem_of_getElem? (i := 208) (by decide +kernel)))
  obtain ⟨c6, i6, k6⟩ := u_known (C := RX6) (T := TX6) (N := 11) (n := 11) hts (fun w h => (List.mem_filter.mp (nm_nd6 w h)).1) (hts _ (List.mem_of_getElem? (i := 96) (by decide +kernel)))
  obtain ⟨c7, i7, k7⟩ := u_known (C := RX7) (T := TX7) (N := 37) (n := 37) hts (fun w h => (List.mem_filter.mp (nm_nd7 w h)).1) (hts _ (List.mem_of_getElem? (i := 1052) (by decide +kernel)))
  obtain ⟨a1, b1, d1, e1, f1, g1⟩ := Cond.arrayClass_spec (hts (.arrayClass .int) (by decide +kernel))
  obtain ⟨a2, b2, d2, e2, f2, g2⟩ := Cond.arrayClass_spec (hts (.arrayClass .long) (by decide +kernel))
  obtain ⟨a3, b3, d3, e3, f3, g3, h3, z3⟩ := Cond.arrayOver_spec (hts (.arrayOver (.object "NoneMayLeave$Shelf")) (by decide +kernel))
  refine ⟨(fun k => [c0, c1, c2, c3, c4, c5, c6, c7].getD k 0, fun k => [i0, i1, i2, i3, i4, i5, i6, i7].getD k (fun _ => 0)), a1, a2, b3, ?_, ?_⟩
  · intro k q hq
    match k, hq with
    | 0, hq => cases hq; exact k0
    | 1, hq => cases hq; exact k1
    | 2, hq => cases hq; exact k2
    | 3, hq => cases hq; exact k3
    | 4, hq => cases hq; exact k4
    | 5, hq => cases hq; exact k5
    | 6, hq => cases hq; exact k6
    | 7, hq => cases hq; exact k7
    | k + 8, hq => exact absurd (List.getElem?_eq_some_iff.mp hq).1 (by show ¬ k + 8 < 8; omega)
  · intro k q hq
    match k, hq with
    | 0, hq => cases hq; exact ⟨fun n z => ⟨fun k h => (by cases h), b1, f1, d1, g1⟩, e1⟩
    | 1, hq => cases hq; exact ⟨fun n z => ⟨fun k h => (by cases h), b2, f2, d2, g2⟩, e2⟩
    | 2, hq => cases hq; exact ⟨fun n z => ⟨fun k h => (by cases h), d3, g3, a3, h3⟩, d3, a3, g3, h3, e3, z3⟩
    | k + 3, hq => exact absurd (List.getElem?_eq_some_iff.mp hq).1 (by show ¬ k + 3 < 3; omega)
theorem st_NW {args : Array Value} {s : State} (hts : ∀ w ∈ lw_tbl, w.before args s = true) : ∀ w ∈ nm_NW, va_Nw w s := by
  intro w hw
  obtain ⟨h1, hn⟩ := List.mem_filter.mp hw
  have h2 := hts w h1
  cases w <;> first
    | exact va_Nw.of rfl h2
    | exact absurd (show false = true from hn) (by decide)
/-- the law's last row: 1 is answered -/
theorem st_ret {p : Program} {l : Launch} {e : Env} {s : State} {m : MethodId} {below : List Frame} {meth : Method} {c : Code} {b d cells slots : Nat} {X : nm_X} (hl : nm_l X = l) (hB : ∀ q, nm_A X q → s.heap.size ≤ q) (hcl : cells ≤ 600000) (hsl : slots ≤ 7302250) : ∀ L pc σ (v : Int32), decode mi_La_law.2.1 pc = .ok (.ireturn, 1) → Rn X mi_La_law (p, e, room_1, s, m, #[Value.ref b], below, meth, c, d, cells, slots) (fun x _ t => x = 1 → lw_Z below #[Value.ref b] s t) L [.int v] pc σ (some (v, σ)) := by
  intro L pc σ v hd hF v2 τ hr
  cases hr
  intro H locs ls hP hS hL
  by_cases h : v = 1
  · subst h
    refine va_forget (fun q hq => hB _ (hS.2.2 q hq)) ?_
    refine W.widen hcl hsl ?_
    intro T hT XS
    obtain ⟨t, a1, b1⟩ := lw_ret (l := nm_l X) (pc := pc) (ls := ls) (H := H) hF.1 hF.2.1 hF.2.2.1 hF.2.2.2.2.2.2.2.1 hd T hT XS
    exact ⟨t, a1, fun _ => b1⟩
  · intro T hT XS
    exact ⟨_, Steps.refl _, fun q => absurd q h⟩
set_option maxRecDepth 100000 in
set_option maxHeartbeats 8000000 in
/-- from behind the constructors on -/
theorem st_tail (hpure : st_pure) {p : Program} {e : Env} {s : State} {m : MethodId} {below : List Frame} {meth : Method} {c : Code} (l : Launch) {b L : Nat} {xs : Nat → Int32} (hLe : L ≤ 3072) (C0 : lw_At p s m meth c b L xs) {D : va_G} {cI cJ cQ : ClassId} {cells slots : Nat} (hcl : cells ≤ 600000) (hsl : slots ≤ 7302250) (a0 a1 a2 a3 a4 a5 a6 a7 a8 a9 a10 a11 a12 a13 a14 a15 a16 a17 a18 a19 a20 a21 a22 a23 a24 a25 a26 a27 a28 a29 a30 a31 a32 a33 a34 a35 a36 a37 a38 a39 a40 a41 a42 a43 a44 a45 a46 a47 a48 a49 a50 a51 a52 a53 a54 a55 a56 a57 a58 a59 a60 a61 a62 a63 a64 a65 a66 a67 a68 a69 b0 b1 b2 b3 b4 b5 b6 b7 b8 b9 b10 b11 b12 b13 b14 b15 b16 b17 b18 b19 b20 b21 b22 : Nat) {Lc : List (Nat × Value)} (hL2 : Lc = [(2, .ref b0), (1, .ref a0), (0, .ref b)]) {ws : va_W} (hws : ws = [(b22, .inl (kn_cI (l, D, (cI, cJ, cQ), s.heap.size), (20, .inl (fun _ => 0)))), (b21, .inl (kn_cI (l, D, (cI, cJ, cQ), s.heap.size), (2, .inl (fun _ => 0)))), (b20, .inl (kn_cI (l, D, (cI, cJ, cQ), s.heap.size), (2, .inl (fun _ => 0)))), (b19, .inl (kn_cI (l, D, (cI, cJ, cQ), s.heap.size), (60, .inl (fun _ => 0)))), (b18, .inl (kn_cI (l, D, (cI, cJ, cQ), s.heap.size), (60, .inl (fun _ => 0)))), (b17, .inl (kn_cI (l, D, (cI, cJ, cQ), s.heap.size), (60, .inl (fun _ => 0)))), (b16, .inl (kn_cI (l, D, (cI, cJ, cQ), s.heap.size), (3, .inl (fun _ => 0)))), (b15, .inl (kn_cI (l, D, (cI, cJ, cQ), s.heap.size), (8, .inl (upd (upd (upd (upd (upd (upd (upd (upd (fun _ => 0) 0 1) 1 3) 2 2) 3 2) 4 1) 5 1) 6 1) 7 1)))), (b14, .inl (kn_cI (l, D, (cI, cJ, cQ), s.heap.size), (51, .inl (upd (upd (upd (upd (upd (upd (upd (upd (upd (upd (upd (upd (upd (upd (upd (upd (upd (upd (upd (upd (upd (upd (upd (upd (upd (upd (upd (upd (upd (upd (upd (upd (upd (upd (upd (upd (upd (upd (upd (upd (upd (upd (upd (upd (upd (upd (upd (upd (upd (upd (upd (fun _ => 0) 0 112) 1 97) 2 114) 3 116) 4 115) 5 32) 6 0) 7 109) 8 97) 9 107) 10 101) 11 114) 12 32) 13 0) 14 107) 15 110) 16 111) 17 119) 18 115) 19 32) 20 0) 21 107) 22 105) 23 110) 24 32) 25 0) 26 102) 27 101) 28 97) 29 114) 30 32) 31 0) 32 112) 33 117) 34 114) 35 115) 36 101) 37 32) 38 0) 39 103) 40 111) 41 101) 42 115) 43 32) 44 0) 45 100) 46 105) 47 101) 48 115) 49 32) 50 0)))), (b13, .inl (kn_cJ (l, D, (cI, cJ, cQ), s.heap.size), (160, .inr (.inl (fun _ => 0))))), (b12, .inl (kn_cJ (l, D, (cI, cJ, cQ), s.heap.size), (1280, .inr (.inl (fun _ => 0))))), (b11, .inl (kn_cI (l, D, (cI, cJ, cQ), s.heap.size), (8, .inl (fun _ => 0)))), (b10, .inl (kn_cI (l, D, (cI, cJ, cQ), s.heap.size), (8, .inl (fun _ => 0)))), (b9, .inl (kn_cI (l, D, (cI, cJ, cQ), s.heap.size), (8, .inl (fun _ => 0)))), (b8, .inl (kn_cI (l, D, (cI, cJ, cQ), s.heap.size), (8, .inl (fun _ => 0)))), (b7, .inl (kn_cI (l, D, (cI, cJ, cQ), s.heap.size), (8, .inl (fun _ => 0)))), (b6, .inl (kn_cI (l, D, (cI, cJ, cQ), s.heap.size), (8, .inl (fun _ => 0)))), (b5, .inl (kn_cI (l, D, (cI, cJ, cQ), s.heap.size), (8, .inl (fun _ => 0)))), (b4, .inl (kn_cI (l, D, (cI, cJ, cQ), s.heap.size), (8, .inl (fun _ => 0)))), (b3, .inl (kn_cI (l, D, (cI, cJ, cQ), s.heap.size), (8, .inl (fun _ => 0)))), (b2, .inl (kn_cI (l, D, (cI, cJ, cQ), s.heap.size), (8, .inl (fun _ => 0)))), (b1, .inl (kn_cI (l, D, (cI, cJ, cQ), s.heap.size), (8, .inl (fun _ => 0)))), (b0, .inr (7, [.int 0, .int 4, .int 0, .int 100, .int 0, .int 1, .int (-1 : Int32), .ref b1, .ref b2, .ref b3, .ref b4, .ref b5, .ref b6, .ref b7, .ref b8, .ref b9, .ref b10, .ref b11, .ref b12, .ref b13, .ref b14, .ref b15, .ref b16, .int 0, .int 0, .int 0, .int 0, .int 0, .ref b17, .ref b18, .ref b19, .ref b20, .ref b21, .int 0, .ref b22, .int 0, .int 0])), (a69, .inl (kn_cJ (l, D, (cI, cJ, cQ), s.heap.size), (160, .inr (.inl (fun _ => 0))))), (a68, .inr (4, [.ref a69, .int 0, .int 0, .int 0, .int (-1 : Int32)])), (a67, .inl (kn_cJ (l, D, (cI, cJ, cQ), s.heap.size), (160, .inr (.inl (fun _ => 0))))), (a66, .inr (4, [.ref a67, .int 0, .int 0, .int 0, .int (-1 : Int32)])), (a65, .inl (kn_cJ (l, D, (cI, cJ, cQ), s.heap.size), (160, .inr (.inl (fun _ => 0))))), (a64, .inr (4, [.ref a65, .int 0, .int 0, .int 0, .int (-1 : Int32)])), (a63, .inl (kn_cJ (l, D, (cI, cJ, cQ), s.heap.size), (160, .inr (.inl (fun _ => 0))))), (a62, .inr (4, [.ref a63, .int 0, .int 0, .int 0, .int (-1 : Int32)])), (a61, .inl (kn_cJ (l, D, (cI, cJ, cQ), s.heap.size), (160, .inr (.inl (fun _ => 0))))), (a60, .inr (4, [.ref a61, .int 0, .int 0, .int 0, .int (-1 : Int32)])), (a59, .inl (kn_cJ (l, D, (cI, cJ, cQ), s.heap.size), (160, .inr (.inl (fun _ => 0))))), (a58, .inr (4, [.ref a59, .int 0, .int 0, .int 0, .int (-1 : Int32)])), (a57, .inl (kn_cJ (l, D, (cI, cJ, cQ), s.heap.size), (160, .inr (.inl (fun _ => 0))))), (a56, .inr (4, [.ref a57, .int 0, .int 0, .int 0, .int (-1 : Int32)])), (a55, .inl (kn_cJ (l, D, (cI, cJ, cQ), s.heap.size), (160, .inr (.inl (fun _ => 0))))), (a54, .inr (4, [.ref a55, .int 0, .int 0, .int 0, .int (-1 : Int32)])), (a53, .inl (kn_cI (l, D, (cI, cJ, cQ), s.heap.size), (8, .inl (fun _ => 0)))), (a52, .inl (kn_cI (l, D, (cI, cJ, cQ), s.heap.size), (20, .inl (fun _ => 0)))), (a51, .inr (2, [.ref a52, .int 0, .int 0, .int 0, .int 0])), (a50, .inl (kn_cI (l, D, (cI, cJ, cQ), s.heap.size), (160, .inl (fun _ => 0)))), (a49, .inl (kn_cI (l, D, (cI, cJ, cQ), s.heap.size), (8, .inl (fun _ => 0)))), (a48, .inl (kn_cI (l, D, (cI, cJ, cQ), s.heap.size), (8, .inl (fun _ => 0)))), (a47, .inl (kn_cI (l, D, (cI, cJ, cQ), s.heap.size), (8, .inl (fun _ => 0)))), (a46, .inl (kn_cI (l, D, (cI, cJ, cQ), s.heap.size), (8, .inl (fun _ => 0)))), (a45, .inl (kn_cI (l, D, (cI, cJ, cQ), s.heap.size), (8, .inl (fun _ => 0)))), (a44, .inl (kn_cI (l, D, (cI, cJ, cQ), s.heap.size), (8, .inl (fun _ => 0)))), (a43, .inr (1, [.ref a44, .ref a45, .ref a46, .ref a47, .ref a48, .ref a49, .int 0, .int 4, .int 0, .int 100, .int 0, .int 1])), (a42, .inr (5, [.ref a43, .ref a50, .int 0, .int 0, .int 0, .int 0, .int (-1 : Int32)])), (a41, .inl (kn_cI (l, D, (cI, cJ, cQ), s.heap.size), (8, .inl (fun _ => 0)))), (a40, .inl (kn_cI (l, D, (cI, cJ, cQ), s.heap.size), (8, .inl (fun _ => 0)))), (a39, .inl (kn_cI (l, D, (cI, cJ, cQ), s.heap.size), (8, .inl (fun _ => 0)))), (a38, .inl (kn_cI (l, D, (cI, cJ, cQ), s.heap.size), (8, .inl (fun _ => 0)))), (a37, .inl (kn_cI (l, D, (cI, cJ, cQ), s.heap.size), (8, .inl (fun _ => 0)))), (a36, .inl (kn_cI (l, D, (cI, cJ, cQ), s.heap.size), (8, .inl (fun _ => 0)))), (a35, .inr (1, [.ref a36, .ref a37, .ref a38, .ref a39, .ref a40, .ref a41, .int 0, .int 4, .int 0, .int 100, .int 0, .int 1])), (a34, .inl (kn_cI (l, D, (cI, cJ, cQ), s.heap.size), (8, .inl (fun _ => 0)))), (a33, .inl (kn_cI (l, D, (cI, cJ, cQ), s.heap.size), (8, .inl (fun _ => 0)))), (a32, .inl (kn_cI (l, D, (cI, cJ, cQ), s.heap.size), (8, .inl (fun _ => 0)))), (a31, .inl (kn_cI (l, D, (cI, cJ, cQ), s.heap.size), (8, .inl (fun _ => 0)))), (a30, .inl (kn_cI (l, D, (cI, cJ, cQ), s.heap.size), (8, .inl (fun _ => 0)))), (a29, .inl (kn_cI (l, D, (cI, cJ, cQ), s.heap.size), (8, .inl (fun _ => 0)))), (a28, .inr (1, [.ref a29, .ref a30, .ref a31, .ref a32, .ref a33, .ref a34, .int 0, .int 4, .int 0, .int 100, .int 0, .int 1])), (a27, .inr (0, [.ref a28, .ref a35, .int 0, .int 0, .int 0])), (a26, .inl (kn_cI (l, D, (cI, cJ, cQ), s.heap.size), (256, .inl (fun _ => 0)))), (a25, .inl (kn_cI (l, D, (cI, cJ, cQ), s.heap.size), (256, .inl (fun _ => 0)))), (a24, .inl (kn_cI (l, D, (cI, cJ, cQ), s.heap.size), (256, .inl (fun _ => 0)))), (a23, .inr (3, [.ref a24, .ref a25, .ref a26, .int 1])), (a22, .inl (kn_cI (l, D, (cI, cJ, cQ), s.heap.size), (8, .inl (fun _ => 0)))), (a21, .inl (kn_cI (l, D, (cI, cJ, cQ), s.heap.size), (8, .inl (fun _ => 0)))), (a20, .inl (kn_cI (l, D, (cI, cJ, cQ), s.heap.size), (8, .inl (fun _ => 0)))), (a19, .inl (kn_cI (l, D, (cI, cJ, cQ), s.heap.size), (8, .inl (fun _ => 0)))), (a18, .inl (kn_cI (l, D, (cI, cJ, cQ), s.heap.size), (8, .inl (fun _ => 0)))), (a17, .inl (kn_cI (l, D, (cI, cJ, cQ), s.heap.size), (8, .inl (fun _ => 0)))), (a16, .inr (1, [.ref a17, .ref a18, .ref a19, .ref a20, .ref a21, .ref a22, .int 0, .int 4, .int 0, .int 100, .int 0, .int 1])), (a15, .inl (kn_cI (l, D, (cI, cJ, cQ), s.heap.size), (8, .inl (fun _ => 0)))), (a14, .inl (kn_cI (l, D, (cI, cJ, cQ), s.heap.size), (8, .inl (fun _ => 0)))), (a13, .inl (kn_cI (l, D, (cI, cJ, cQ), s.heap.size), (8, .inl (fun _ => 0)))), (a12, .inl (kn_cI (l, D, (cI, cJ, cQ), s.heap.size), (8, .inl (fun _ => 0)))), (a11, .inl (kn_cI (l, D, (cI, cJ, cQ), s.heap.size), (8, .inl (fun _ => 0)))), (a10, .inl (kn_cI (l, D, (cI, cJ, cQ), s.heap.size), (8, .inl (fun _ => 0)))), (a9, .inr (1, [.ref a10, .ref a11, .ref a12, .ref a13, .ref a14, .ref a15, .int 0, .int 4, .int 0, .int 100, .int 0, .int 1])), (a8, .inl (kn_cI (l, D, (cI, cJ, cQ), s.heap.size), (8, .inl (fun _ => 0)))), (a7, .inl (kn_cI (l, D, (cI, cJ, cQ), s.heap.size), (8, .inl (fun _ => 0)))), (a6, .inl (kn_cI (l, D, (cI, cJ, cQ), s.heap.size), (8, .inl (fun _ => 0)))), (a5, .inl (kn_cI (l, D, (cI, cJ, cQ), s.heap.size), (8, .inl (fun _ => 0)))), (a4, .inl (kn_cI (l, D, (cI, cJ, cQ), s.heap.size), (8, .inl (fun _ => 0)))), (a3, .inl (kn_cI (l, D, (cI, cJ, cQ), s.heap.size), (8, .inl (fun _ => 0)))), (a2, .inr (1, [.ref a3, .ref a4, .ref a5, .ref a6, .ref a7, .ref a8, .int 0, .int 4, .int 0, .int 100, .int 0, .int 1])), (a1, .inl (kn_cQ (l, D, (cI, cJ, cQ), s.heap.size), (8, .inr (.inr (.inr (.inr (va_up (va_up (va_up (va_up (va_up (va_up (va_up (va_up (fun _ => none) 0 (some a54)) 1 (some a56)) 2 (some a58)) 3 (some a60)) 4 (some a62)) 5 (some a64)) 6 (some a66)) 7 (some a68)))))))), (a0, .inr (6, [.ref a1, .ref a2, .ref a9, .ref a16, .ref a23, .ref a27, .ref a42, .ref a51, .ref a53, .int 0, .int (-1 : Int32)]))]) (hY : kn_l (l, D, (cI, cJ, cQ), s.heap.size) = l) : Kn (l, D, (cI, cJ, cQ), s.heap.size) mi_La_law (p, e, room_1, s, m, #[Value.ref b], below, meth, c, 1000, 600000, 7302250) Lc [] 16 ws cells slots (lw_Z below #[Value.ref b] s) := by
  intro hF H locs ls hP hD hS hLs
  obtain ⟨sv, hsv, hSF⟩ := st_SF C0
  have hw : ∃ X : nm_X, X = (l, D, (fun k => [a0, a1, a2, a3, a4, a5, a6, a7, a8, a9, a10, a11, a12, a13, a14, a15, a16, a17, a18, a19, a20, a21, a22, a23, a24, a25, a26, a27, a28, a29, a30, a31, a32, a33, a34, a35, a36, a37, a38, a39, a40, a41, a42, a43, a44, a45, a46, a47, a48, a49, a50, a51, a52, a53, a54, a55, a56, a57, a58, a59, a60, a61, a62, a63, a64, a65, a66, a67, a68, a69, b0, b1, b2, b3, b4, b5, b6, b7, b8, b9, b10, b11, b12, b13, b14, b15, b16, b17, b18, b19, b20, b21, b22].getD k 0), sv, s.heap.size, (cI, cJ, cQ), (L, xs)) := ⟨_, rfl⟩
  obtain ⟨X, hX⟩ := hw
  have hXl : nm_l X = l := by rw [hX]; rfl
  have hXD : nm_D X = kn_D (l, D, (cI, cJ, cQ), s.heap.size) := by rw [hX]; rfl
  have hXI : nm_cI X = kn_cI (l, D, (cI, cJ, cQ), s.heap.size) := by rw [hX]; rfl
  have hXJ : nm_cJ X = kn_cJ (l, D, (cI, cJ, cQ), s.heap.size) := by rw [hX]; rfl
  have hXQ : nm_cQ X = kn_cQ (l, D, (cI, cJ, cQ), s.heap.size) := by rw [hX]; rfl
  have hXa : nm_ad X = fun k => [a0, a1, a2, a3, a4, a5, a6, a7, a8, a9, a10, a11, a12, a13, a14, a15, a16, a17, a18, a19, a20, a21, a22, a23, a24, a25, a26, a27, a28, a29, a30, a31, a32, a33, a34, a35, a36, a37, a38, a39, a40, a41, a42, a43, a44, a45, a46, a47, a48, a49, a50, a51, a52, a53, a54, a55, a56, a57, a58, a59, a60, a61, a62, a63, a64, a65, a66, a67, a68, a69, b0, b1, b2, b3, b4, b5, b6, b7, b8, b9, b10, b11, b12, b13, b14, b15, b16, b17, b18, b19, b20, b21, b22].getD k 0 := by rw [hX]; rfl
  have hXA : nm_A X = kn_A (l, D, (cI, cJ, cQ), s.heap.size) := by rw [hX]; rfl
  have hXs : nm_sv X = sv := by rw [hX]; rfl
  have hXL : nm_L X = L := by rw [hX]; rfl
  have hKS : nm_KS X s := by
    refine ⟨?_, ⟨?_, hF.2.2.2.2.2.2.1.2.1⟩, by rw [hX]; exact hSF l D _ _⟩
    · rw [hX]; exact hF.2.2.2.2.2.2.1.1
    · rw [hws] at hD
      exact st_dist a0 a1 a2 a3 a4 a5 a6 a7 a8 a9 a10 a11 a12 a13 a14 a15 a16 a17 a18 a19 a20 a21 a22 a23 a24 a25 a26 a27 a28 a29 a30 a31 a32 a33 a34 a35 a36 a37 a38 a39 a40 a41 a42 a43 a44 a45 a46 a47 a48 a49 a50 a51 a52 a53 a54 a55 a56 a57 a58 a59 a60 a61 a62 a63 a64 a65 a66 a67 a68 a69 b0 b1 b2 b3 b4 b5 b6 b7 b8 b9 b10 b11 b12 b13 b14 b15 b16 b17 b18 b19 b20 b21 b22 hXA hXa hD
  have hP2 : va_P (nm_D X) vwCl (nm_wl X st_0) H := by
    intro k q hk
    have hl : k < 93 := by
      have := (List.getElem?_eq_some_iff.mp hk).1
      rw [nm_wl_len] at this
      exact this
    rw [nm_wl_at X st_0 hl] at hk
    cases hk
    rw [hws] at hP
    exact st_conv a0 a1 a2 a3 a4 a5 a6 a7 a8 a9 a10 a11 a12 a13 a14 a15 a16 a17 a18 a19 a20 a21 a22 a23 a24 a25 a26 a27 a28 a29 a30 a31 a32 a33 a34 a35 a36 a37 a38 a39 a40 a41 a42 a43 a44 a45 a46 a47 a48 a49 a50 a51 a52 a53 a54 a55 a56 a57 a58 a59 a60 a61 a62 a63 a64 a65 a66 a67 a68 a69 b0 b1 b2 b3 b4 b5 b6 b7 b8 b9 b10 b11 b12 b13 b14 b15 b16 b17 b18 b19 b20 b21 b22 hXD hXI hXJ hXQ hXa hP k hl
  obtain ⟨τ, hτ⟩ := hpure X (by rw [hXL]; exact hLe)
  have hR := r_La_law X (p, e, room_1, s, m, #[Value.ref b], below, meth, c, 1000, cells, slots) (fun x _ t => x = 1 → lw_Z below #[Value.ref b] s t) (st_ret hXl (fun q hq => by rw [hXA] at hq; exact hq) hcl hsl) (Nat.le_of_ble_eq_true rfl) st_0
  have hFX : nm_FX X mi_La_law (p, e, room_1, s, m, #[Value.ref b], below, meth, c, 1000, cells, slots) := ⟨hF.1, hF.2.1, hF.2.2.1, hF.2.2.2.1, hF.2.2.2.2.1, hF.2.2.2.2.2.1, hKS, hF.2.2.2.2.2.2.2.1, hF.2.2.2.2.2.2.2.2.1, hF.2.2.2.2.2.2.2.2.2.1, hcl, hsl⟩
  have e4 : nm_tr X (.ref 4000) = .ref b := by rw [nm_tr_sv (by omega), hXs, hsv]; rfl
  have e0 : nm_tr X (.ref 0) = .ref a0 := by rw [nm_tr_ref (by omega), hXa]; rfl
  have e70 : nm_tr X (.ref 70) = .ref b0 := by rw [nm_tr_ref (by omega), hXa]; rfl
  have hh : nm_has X ls mi_La_law.2.2.1 [(0, .ref 4000), (1, .ref 0), (2, .ref 70)] := by
    subst hL2
    refine ⟨hLs.1, hLs.2.1, fun i v hv => ?_⟩
    have hm := nm_at_mem hv
    simp only [List.mem_cons, List.not_mem_nil, or_false, Prod.mk.injEq] at hm
    rcases hm with ⟨rfl, rfl⟩ | ⟨rfl, rfl⟩ | ⟨rfl, rfl⟩
    · rw [e4]; exact lv_at hLs 2 rfl
    · rw [e0]; exact lv_at hLs 1 rfl
    · rw [e70]; exact lv_at hLs 0 rfl
  have hS2 : va_S (nm_A X) s.heap H locs := by rw [hXA]; exact hS
  have k := hR hFX 1 τ hτ H locs ls hP2 hS2 hh
  intro T hT XS
  rw [hXl] at k
  obtain ⟨t, a1, b1⟩ := k T hT XS
  exact ⟨t, a1, b1 rfl⟩
set_option maxRecDepth 100000 in
set_option maxHeartbeats 8000000 in
/-- the walk from the law's entry, out of the pure part -/
theorem st_start (hpure : st_pure) {p : Program} {e : Env} {s : State} {m : MethodId} {below : List Frame} {meth : Method} {c : Code} (l : Launch) {b L : Nat} {xs : Nat → Int32} (hL : L ≤ 3072) (C0 : lw_At p s m meth c b L xs) : W p l e room_1 s m #[Value.ref b] below meth c s.heap [] 0 0 (lw_Z below #[Value.ref b] s) (entryFrame m ([Value.ref b] : List Value).toArray 4) := by
  obtain ⟨hx, hb, hr, hml, hown, hts, hX, hbl, hlocks, hgv⟩ := id C0
  obtain ⟨D, cI, cJ, cQ, hK⟩ := st_cls hts
  have hS0 : kn_S (l, D, (cI, cJ, cQ), s.heap.size) s := ⟨hK, st_NW hts, va_AO.of (hts (.arrayOver (.object "NoneMayLeave$Shelf")) (by decide +kernel)), Nat.le_refl _⟩
  have hl := lv_entry ([.ref b]) (n := 4) (Nat.le_of_ble_eq_true rfl)
  rw [lg_entry_eq]
  have hFX : kn_FX (l, D, (cI, cJ, cQ), s.heap.size) mi_La_law (p, e, room_1, s, m, #[Value.ref b], below, meth, c, 1000, 600000, 7302250) := ⟨hx, hb, hr, hml, hown, fun w hw => hts w (List.mem_filter.mp hw).1, hS0, hlocks, Nat.le_of_ble_eq_true rfl, Nat.le_of_ble_eq_true rfl, Nat.le_refl _, Nat.le_refl _, fun h => absurd h (by decide +kernel)⟩
  have main : Kn (l, D, (cI, cJ, cQ), s.heap.size) mi_La_law (p, e, room_1, s, m, #[Value.ref b], below, meth, c, 1000, 600000, 7302250) [(0, .ref b)] [] 0 [] 0 0 (lw_Z below #[Value.ref b] s) := by
    refine kn_new (pc := 0) (fs := [.null, .null, .null, .null, .null, .null, .null, .null, .null, .int 0, .int 0]) tyX6 tyX6_ok (ci := 6) rfl nm_nd6 wd_95 wd_96 wd_80 (fun j hj => kb_6 j hj) (Nat.le_of_ble_eq_true rfl) (Nat.le_of_ble_eq_true rfl) dk_La_law_0 (fun a0 => ?_)
    refine kn_dup (pc := 3) dk_La_law_3 rfl ?_
    refine kn_call (pc := 4) (st := [.ref a0]) kc_Nm_init (Nat.le_of_ble_eq_true rfl) kw_Nm_init wd_97 wd_98 rfl rfl (Nat.le_of_ble_eq_true rfl) (Nat.le_of_ble_eq_true rfl) (Nat.le_of_ble_eq_true rfl) dk_La_law_4 (fun w hw => ?_)
    obtain ⟨a1, a2, a3, a4, a5, a6, a7, a8, a9, a10, a11, a12, a13, a14, a15, a16, a17, a18, a19, a20, a21, a22, a23, a24, a25, a26, a27, a28, a29, a30, a31, a32, a33, a34, a35, a36, a37, a38, a39, a40, a41, a42, a43, a44, a45, a46, a47, a48, a49, a50, a51, a52, a53, a54, a55, a56, a57, a58, a59, a60, a61, a62, a63, a64, a65, a66, a67, a68, a69, rfl⟩ := hw
    refine kn_astore_n (pc := 7) 1 [(1, .ref a0), (0, .ref b)] dk_La_law_7 rfl rfl rfl ?_
    refine kn_new (pc := 8) (fs := [.int 0, .int 0, .int 0, .int 0, .int 0, .int 0, .int 0, .null, .null, .null, .null, .null, .null, .null, .null, .null, .null, .null, .null, .null, .null, .null, .null, .int 0, .int 0, .int 0, .int 0, .int 0, .null, .null, .null, .null, .null, .int 0, .null, .int 0, .int 0]) tyX7 tyX7_ok (ci := 7) rfl nm_nd7 wd_1051 wd_1052 wd_87 (fun j hj => kb_7 j hj) (Nat.le_of_ble_eq_true rfl) (Nat.le_of_ble_eq_true rfl) dk_La_law_8 (fun b0 => ?_)
    refine kn_dup (pc := 11) dk_La_law_11 rfl ?_
    refine kn_call (pc := 12) (st := [.ref b0]) kc_Md_init (Nat.le_of_ble_eq_true rfl) kw_Md_init wd_1053 wd_1054 rfl rfl (Nat.le_of_ble_eq_true rfl) (Nat.le_of_ble_eq_true rfl) (Nat.le_of_ble_eq_true rfl) dk_La_law_12 (fun w hw => ?_)
    obtain ⟨b1, b2, b3, b4, b5, b6, b7, b8, b9, b10, b11, b12, b13, b14, b15, b16, b17, b18, b19, b20, b21, b22, rfl⟩ := hw
    refine kn_astore_n (pc := 15) 2 [(2, .ref b0), (1, .ref a0), (0, .ref b)] dk_La_law_15 rfl rfl rfl ?_
    exact st_tail hpure l hL C0 (Nat.le_of_ble_eq_true rfl) (Nat.le_of_ble_eq_true rfl) a0 a1 a2 a3 a4 a5 a6 a7 a8 a9 a10 a11 a12 a13 a14 a15 a16 a17 a18 a19 a20 a21 a22 a23 a24 a25 a26 a27 a28 a29 a30 a31 a32 a33 a34 a35 a36 a37 a38 a39 a40 a41 a42 a43 a44 a45 a46 a47 a48 a49 a50 a51 a52 a53 a54 a55 a56 a57 a58 a59 a60 a61 a62 a63 a64 a65 a66 a67 a68 a69 b0 b1 b2 b3 b4 b5 b6 b7 b8 b9 b10 b11 b12 b13 b14 b15 b16 b17 b18 b19 b20 b21 b22 rfl rfl rfl
  exact main hFX s.heap [] _ (fun k q h => by simp at h) ⟨fun i j p q h => by simp at h, fun k q h => by simp at h⟩ va_S.rf hl
