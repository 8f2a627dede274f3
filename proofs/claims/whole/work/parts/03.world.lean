/-! THE ONE WORLD: both objects' cells, by their numbers 0 to 92; ints by (cell, place), longs likewise; which cell holds which reference never changes behind the constructors -/
abbrev nm_St : Type := (Nat → Nat → Int32) × (Nat → Nat → Int64)
/-- launch, classes, addresses of the cells, what static references are, where new cells begin, classes of int[], long[], Shelf[], the script -/
abbrev nm_X : Type := Launch × va_G × (Nat → Nat) × (Nat → Option Nat) × Nat × (ClassId × ClassId × ClassId) × (Nat × (Nat → Int32))
def nm_l (X : nm_X) : Launch := X.1
def nm_D (X : nm_X) : va_G := X.2.1
def nm_ad (X : nm_X) : Nat → Nat := X.2.2.1
def nm_sv (X : nm_X) : Nat → Option Nat := X.2.2.2.1
def nm_A (X : nm_X) : Nat → Prop := fun q => X.2.2.2.2.1 ≤ q
def nm_cI (X : nm_X) : ClassId := X.2.2.2.2.2.1.1
def nm_cJ (X : nm_X) : ClassId := X.2.2.2.2.2.1.2.1
def nm_cQ (X : nm_X) : ClassId := X.2.2.2.2.2.1.2.2
def nm_L (X : nm_X) : Nat := X.2.2.2.2.2.2.1
def nm_xs (X : nm_X) : Nat → Int32 := X.2.2.2.2.2.2.2
def nm_tr (X : nm_X) : Value → Value := fun v => match v with
  | .ref k => if k < 1000 then .ref (nm_ad X k) else va_rf (nm_sv X k)
  | w => w
theorem nm_tr_ref {X : nm_X} {k : Nat} (h : k < 1000) : nm_tr X (.ref k) = .ref (nm_ad X k) := if_pos h
theorem nm_tr_sv {X : nm_X} {k : Nat} (h : ¬ k < 1000) : nm_tr X (.ref k) = va_rf (nm_sv X k) := if_neg h
theorem nm_tr_cat (X : nm_X) (v : Value) : (nm_tr X v).category = v.category := by
  cases v <;> first | rfl | skip
  rename_i k
  show (if k < 1000 then Value.ref (nm_ad X k) else va_rf (nm_sv X k)).category = 1
  by_cases h : k < 1000
  · rw [if_pos h]; rfl
  · rw [if_neg h]; cases nm_sv X k <;> rfl
/-- a cell's build: 0 ints, 1 longs, 2 Shelves, 3 and more an object of a class; how many; what of it are references -/
abbrev nm_E : Type := Nat × Nat × (Nat → Option (Option Nat))
def nm_f0 : Nat → Option (Option Nat) := fun _ => none
def nm_eA (n : Nat) : nm_E := (0, n, nm_f0)
def nm_eJ (n : Nat) : nm_E := (1, n, nm_f0)
def nm_fI (o : Nat) : Nat → Option (Option Nat) := fun k => if k < 6 then some (some (o + 1 + k)) else none
def nm_eI (o : Nat) : nm_E := (4, 12, nm_fI o)
def nm_fH (o : Nat) : Nat → Option (Option Nat) := fun k => if k < 1 then some (some (o + 1)) else none
def nm_eH (o : Nat) : nm_E := (7, 5, nm_fH o)
def nm_fL (l : List Nat) : Nat → Option (Option Nat) := fun k => match l[k]? with
  | some 0 => none
  | some r => some (some r)
  | none => none
def nm_eO (c n : Nat) (l : List Nat) : nm_E := (c, n, nm_fL l)
def nm_eQ : nm_E := (2, 8, fun j => some (some (54 + 2 * j)))
def nm_isl6 (o : Nat) : List nm_E := [nm_eI o, nm_eA 8, nm_eA 8, nm_eA 8, nm_eA 8, nm_eA 8, nm_eA 8]
def nm_she2 (o : Nat) : List nm_E := [nm_eH o, nm_eJ 160]
/-- all cells; fields that are no references stand as 0 in a list -/
def nm_shl : List nm_E :=
  [nm_eO 9 11 [1, 2, 9, 16, 23, 27, 42, 51, 53], nm_eQ]
  ++ nm_isl6 2 ++ nm_isl6 9 ++ nm_isl6 16
  ++ [nm_eO 6 4 [24, 25, 26], nm_eA 256, nm_eA 256, nm_eA 256]
  ++ [nm_eO 3 5 [28, 35]] ++ nm_isl6 28 ++ nm_isl6 35
  ++ [nm_eO 8 7 [43, 50]] ++ nm_isl6 43 ++ [nm_eA 160]
  ++ [nm_eO 5 5 [52], nm_eA 20, nm_eA 8]
  ++ nm_she2 54 ++ nm_she2 56 ++ nm_she2 58 ++ nm_she2 60 ++ nm_she2 62 ++ nm_she2 64 ++ nm_she2 66 ++ nm_she2 68
  ++ [nm_eO 10 37 [0, 0, 0, 0, 0, 0, 0, 71, 72, 73, 74, 75, 76, 77, 78, 79, 80, 81, 82, 83, 84, 85, 86, 0, 0, 0, 0, 0, 87, 88, 89, 90, 91, 0, 92]]
  ++ [nm_eA 8, nm_eA 8, nm_eA 8, nm_eA 8, nm_eA 8, nm_eA 8, nm_eA 8, nm_eA 8, nm_eA 8, nm_eA 8, nm_eA 8, nm_eJ 1280, nm_eJ 160, nm_eA 51, nm_eA 8, nm_eA 3, nm_eA 60, nm_eA 60, nm_eA 60, nm_eA 2, nm_eA 2, nm_eA 20]
def nm_N : Nat := 93
theorem nm_shl_len : nm_shl.length = nm_N := rfl
def nm_sh (k : Nat) : nm_E := nm_shl.getD k (99, 0, nm_f0)
/-- numbers of Islands and Shelves -/
def nm_isl (o : Nat) : Bool := [2, 9, 16, 28, 35, 43].contains o
def nm_isH (o : Nat) : Bool := [54, 56, 58, 60, 62, 64, 66, 68].contains o
theorem nm_isl_c {o : Nat} (h : nm_isl o = true) : o = 2 ∨ o = 9 ∨ o = 16 ∨ o = 28 ∨ o = 35 ∨ o = 43 := by
  simpa [nm_isl] using h
theorem nm_isH_c {o : Nat} (h : nm_isH o = true) : o = 54 ∨ o = 56 ∨ o = 58 ∨ o = 60 ∨ o = 62 ∨ o = 64 ∨ o = 66 ∨ o = 68 := by
  simpa [nm_isH] using h
theorem nm_i0 {o : Nat} (h : nm_isl o = true) : nm_sh o = nm_eI o := by
  rcases nm_isl_c h with rfl | rfl | rfl | rfl | rfl | rfl <;> rfl
theorem nm_i1 {o : Nat} (h : nm_isl o = true) : nm_sh (o + 1) = nm_eA 8 := by
  rcases nm_isl_c h with rfl | rfl | rfl | rfl | rfl | rfl <;> rfl
theorem nm_i2 {o : Nat} (h : nm_isl o = true) : nm_sh (o + 2) = nm_eA 8 := by
  rcases nm_isl_c h with rfl | rfl | rfl | rfl | rfl | rfl <;> rfl
theorem nm_i3 {o : Nat} (h : nm_isl o = true) : nm_sh (o + 3) = nm_eA 8 := by
  rcases nm_isl_c h with rfl | rfl | rfl | rfl | rfl | rfl <;> rfl
theorem nm_i4 {o : Nat} (h : nm_isl o = true) : nm_sh (o + 4) = nm_eA 8 := by
  rcases nm_isl_c h with rfl | rfl | rfl | rfl | rfl | rfl <;> rfl
theorem nm_i5 {o : Nat} (h : nm_isl o = true) : nm_sh (o + 5) = nm_eA 8 := by
  rcases nm_isl_c h with rfl | rfl | rfl | rfl | rfl | rfl <;> rfl
theorem nm_i6 {o : Nat} (h : nm_isl o = true) : nm_sh (o + 6) = nm_eA 8 := by
  rcases nm_isl_c h with rfl | rfl | rfl | rfl | rfl | rfl <;> rfl
theorem nm_h0 {o : Nat} (h : nm_isH o = true) : nm_sh o = nm_eH o := by
  rcases nm_isH_c h with rfl | rfl | rfl | rfl | rfl | rfl | rfl | rfl <;> rfl
theorem nm_h1 {o : Nat} (h : nm_isH o = true) : nm_sh (o + 1) = nm_eJ 160 := by
  rcases nm_isH_c h with rfl | rfl | rfl | rfl | rfl | rfl | rfl | rfl <;> rfl
theorem nm_sh_lt {k t n : Nat} {f : Nat → Option (Option Nat)} (h : nm_sh k = (t, n, f)) (ht : t ≠ 99) : k < nm_N := by
  rcases Nat.lt_or_ge k nm_N with q | q
  · exact q
  · exfalso
    apply ht
    have e : nm_sh k = (99, 0, nm_f0) := by
      unfold nm_sh
      rw [List.getD_eq_getElem?_getD, List.getElem?_eq_none (by rw [nm_shl_len]; exact q)]
      rfl
    rw [e] at h
    exact (congrArg Prod.fst h).symm
/-- a cell as the kit has it -/
def nm_en (X : nm_X) (σ : nm_St) (k : Nat) : va_E := match nm_sh k with
  | (0, n, _) => .inl (nm_cI X, (n, .inl (σ.1 k)))
  | (1, n, _) => .inl (nm_cJ X, (n, .inr (.inl (σ.2 k))))
  | (2, n, f) => .inl (nm_cQ X, (n, .inr (.inr (.inr (.inr (fun j => ((f j).getD none).map (nm_ad X)))))))
  | (t + 3, n, f) => .inr (t, (List.range n).map fun j => match f j with
    | none => .int (σ.1 k j)
    | some r => va_rf (r.map (nm_ad X)))
def nm_wl (X : nm_X) (σ : nm_St) : va_W := (List.range nm_N).map fun k => (nm_ad X k, nm_en X σ k)
theorem nm_wl_at (X : nm_X) (σ : nm_St) {k : Nat} (h : k < nm_N) : (nm_wl X σ)[k]? = some (nm_ad X k, nm_en X σ k) := by
  unfold nm_wl
  rw [List.getElem?_map, List.getElem?_range h]
  rfl
theorem nm_wl_len (X : nm_X) (σ : nm_St) : (nm_wl X σ).length = nm_N := by
  unfold nm_wl
  rw [List.length_map, List.length_range]
def nm_up {β : Type} (f : Nat → Nat → β) (a b : Nat) (x : β) : Nat → Nat → β := fun i j => if i = a ∧ j = b then x else f i j
def nm_pI (σ : nm_St) (a b : Nat) (x : Int32) : nm_St := (nm_up σ.1 a b x, σ.2)
def nm_pJ (σ : nm_St) (a b : Nat) (x : Int64) : nm_St := (σ.1, nm_up σ.2 a b x)
def nm_cp {β : Type} (f : Nat → Nat → β) (p sp q dp n : Nat) : Nat → Nat → β := fun i j => if i = q ∧ dp ≤ j ∧ j < dp + n then f p (sp + (j - dp)) else f i j
def nm_cpI (σ : nm_St) (p sp q dp n : Nat) : nm_St := (nm_cp σ.1 p sp q dp n, σ.2)
def nm_cpJ (σ : nm_St) (p sp q dp n : Nat) : nm_St := (σ.1, nm_cp σ.2 p sp q dp n)
theorem nm_up_row {β : Type} (f : Nat → Nat → β) (a b : Nat) (x : β) : nm_up f a b x a = fun j => if j = b then x else f a j := by
  funext j
  simp [nm_up]
theorem nm_up_ne {β : Type} (f : Nat → Nat → β) {a k : Nat} (b : Nat) (x : β) (h : k ≠ a) : nm_up f a b x k = f k := by
  funext j
  simp [nm_up, h]
theorem nm_cp_row {β : Type} (f : Nat → Nat → β) (p sp q dp n : Nat) : nm_cp f p sp q dp n q = va_cpy (f p) (f q) sp dp n := by
  funext j
  simp [nm_cp, va_cpy]
theorem nm_cp_ne {β : Type} (f : Nat → Nat → β) {p q k : Nat} (sp dp n : Nat) (h : k ≠ q) : nm_cp f p sp q dp n k = f k := by
  funext j
  simp [nm_cp, h]
/-- two worlds that differ in one cell -/
theorem nm_wl_set (X : nm_X) (σ τ : nm_St) {a : Nat} (ha : a < nm_N) {e : va_E} (he : nm_en X τ a = e) (ho : ∀ k, k ≠ a → nm_en X τ k = nm_en X σ k) : (nm_wl X σ).set a (nm_ad X a, e) = nm_wl X τ := by
  apply List.ext_getElem?
  intro k
  by_cases hk : k < nm_N
  · by_cases h : k = a
    · subst h
      rw [List.getElem?_set_self (by rw [nm_wl_len]; exact hk), nm_wl_at X τ hk, he]
    · rw [List.getElem?_set_ne (Ne.symm h), nm_wl_at X σ hk, nm_wl_at X τ hk, ho k h]
  · rw [List.getElem?_eq_none (by rw [List.length_set, nm_wl_len]; omega), List.getElem?_eq_none (by rw [nm_wl_len]; omega)]
theorem nm_en_ne (X : nm_X) {σ τ : nm_St} {k : Nat} (h1 : τ.1 k = σ.1 k) (h2 : τ.2 k = σ.2 k) : nm_en X τ k = nm_en X σ k := by
  unfold nm_en
  rw [h1, h2]
theorem nm_en_A (X : nm_X) (σ : nm_St) {k n : Nat} (h : nm_sh k = nm_eA n) : nm_en X σ k = .inl (nm_cI X, (n, .inl (σ.1 k))) := by
  unfold nm_en
  rw [h]
  rfl
theorem nm_en_J (X : nm_X) (σ : nm_St) {k n : Nat} (h : nm_sh k = nm_eJ n) : nm_en X σ k = .inl (nm_cJ X, (n, .inr (.inl (σ.2 k)))) := by
  unfold nm_en
  rw [h]
  rfl
/-- an object's fields -/
def nm_fs (X : nm_X) (σ : nm_St) (k n : Nat) (f : Nat → Option (Option Nat)) : List Value := (List.range n).map fun j => match f j with
    | none => .int (σ.1 k j)
    | some r => va_rf (r.map (nm_ad X))
theorem nm_en_O (X : nm_X) (σ : nm_St) {k n t : Nat} {f : Nat → Option (Option Nat)} (h : nm_sh k = (t + 3, n, f)) : nm_en X σ k = .inr (t, nm_fs X σ k n f) := by
  unfold nm_en
  rw [h]
  rfl
theorem nm_fs_len (X : nm_X) (σ : nm_St) (k n : Nat) (f : Nat → Option (Option Nat)) : (nm_fs X σ k n f).length = n := by
  simp [nm_fs]
theorem nm_fs_i (X : nm_X) (σ : nm_St) {k n j : Nat} {f : Nat → Option (Option Nat)} (hj : j < n) (h : f j = none) : (nm_fs X σ k n f)[j]? = some (.int (σ.1 k j)) := by
  unfold nm_fs
  rw [List.getElem?_map, List.getElem?_range hj]
  simp [h]
theorem nm_fs_r (X : nm_X) (σ : nm_St) {k n j r : Nat} {f : Nat → Option (Option Nat)} (hj : j < n) (h : f j = some (some r)) : (nm_fs X σ k n f)[j]? = some (.ref (nm_ad X r)) := by
  unfold nm_fs
  rw [List.getElem?_map, List.getElem?_range hj]
  simp [h, va_rf]
theorem nm_fs_set (X : nm_X) (σ : nm_St) {k n j : Nat} {f : Nat → Option (Option Nat)} (h : f j = none) (x : Int32) : (nm_fs X σ k n f).set j (.int x) = nm_fs X (nm_pI σ k j x) k n f := by
  apply List.ext_getElem?
  intro i
  by_cases hi : i < n
  · by_cases e : i = j
    · subst e
      rw [List.getElem?_set_self (by rw [nm_fs_len]; exact hi), nm_fs_i X _ hi h]
      simp [nm_pI, nm_up]
    · rw [List.getElem?_set_ne (Ne.symm e)]
      unfold nm_fs
      rw [List.getElem?_map, List.getElem?_map, List.getElem?_range hi]
      simp [nm_pI, nm_up, e]
  · rw [List.getElem?_eq_none (by rw [List.length_set, nm_fs_len]; omega), List.getElem?_eq_none (by rw [nm_fs_len]; omega)]
theorem nm_put_O (X : nm_X) (σ : nm_St) {k n t j : Nat} {f : Nat → Option (Option Nat)} (h : nm_sh k = (t + 3, n, f)) (ht : t ≠ 96) (hf : f j = none) (x : Int32) : (nm_wl X σ).set k (nm_ad X k, .inr (t, (nm_fs X σ k n f).set j (.int x))) = nm_wl X (nm_pI σ k j x) := by
  refine nm_wl_set X σ _ (nm_sh_lt h (by omega)) (by rw [nm_en_O X _ h, nm_fs_set X σ hf]) (fun i hi => nm_en_ne X (nm_up_ne _ _ _ hi) rfl)
theorem nm_put_A (X : nm_X) (σ : nm_St) {k n : Nat} (h : nm_sh k = nm_eA n) (j : Nat) (x : Int32) : (nm_wl X σ).set k (nm_ad X k, .inl (nm_cI X, (n, .inl (upd (σ.1 k) j x)))) = nm_wl X (nm_pI σ k j x) := by
  refine nm_wl_set X σ _ (nm_sh_lt h (by omega)) (by rw [nm_en_A X _ h]; show _ = Sum.inl (_, (n, Sum.inl (upd _ _ _))); rw [show (nm_pI σ k j x).1 k = upd (σ.1 k) j x from nm_up_row _ _ _ _]) (fun i hi => nm_en_ne X (nm_up_ne _ _ _ hi) rfl)
theorem nm_put_J (X : nm_X) (σ : nm_St) {k n : Nat} (h : nm_sh k = nm_eJ n) (j : Nat) (x : Int64) : (nm_wl X σ).set k (nm_ad X k, .inl (nm_cJ X, (n, .inr (.inl (vp_updL (σ.2 k) j x))))) = nm_wl X (nm_pJ σ k j x) := by
  refine nm_wl_set X σ _ (nm_sh_lt h (by omega)) (by rw [nm_en_J X _ h]; show _ = Sum.inl (_, (n, Sum.inr (Sum.inl (vp_updL _ _ _)))); rw [show (nm_pJ σ k j x).2 k = vp_updL (σ.2 k) j x from nm_up_row _ _ _ _]) (fun i hi => nm_en_ne X rfl (nm_up_ne _ _ _ hi))
theorem nm_cpy_A (X : nm_X) (σ : nm_St) {p q n : Nat} (h : nm_sh q = nm_eA n) (sp dp m : Nat) : (nm_wl X σ).set q (nm_ad X q, .inl (nm_cI X, (n, .inl (va_cpy (σ.1 p) (σ.1 q) sp dp m)))) = nm_wl X (nm_cpI σ p sp q dp m) := by
  refine nm_wl_set X σ _ (nm_sh_lt h (by omega)) (by rw [nm_en_A X _ h, show (nm_cpI σ p sp q dp m).1 q = va_cpy (σ.1 p) (σ.1 q) sp dp m from nm_cp_row _ _ _ _ _ _]) (fun i hi => nm_en_ne X (nm_cp_ne _ _ _ _ hi) rfl)
theorem nm_cpy_J (X : nm_X) (σ : nm_St) {p q n : Nat} (h : nm_sh q = nm_eJ n) (sp dp m : Nat) : (nm_wl X σ).set q (nm_ad X q, .inl (nm_cJ X, (n, .inr (.inl (va_cpy (σ.2 p) (σ.2 q) sp dp m))))) = nm_wl X (nm_cpJ σ p sp q dp m) := by
  refine nm_wl_set X σ _ (nm_sh_lt h (by omega)) (by rw [nm_en_J X _ h, show (nm_cpJ σ p sp q dp m).2 q = va_cpy (σ.2 p) (σ.2 q) sp dp m from nm_cp_row _ _ _ _ _ _]) (fun i hi => nm_en_ne X rfl (nm_cp_ne _ _ _ _ hi))
