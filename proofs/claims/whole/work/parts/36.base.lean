/-! loops with any state; regions of cells; what the class's cells and the model's stand for -/
theorem lp_Q {β ρ : Type} (Lf : Nat → Nat → β → ρ) (N : Nat) (P : Nat → β → Prop) (Q : ρ → Prop) (hs : ∀ n i a, i < N → P i a → (∀ a', P (i + 1) a' → Q (Lf n (i + 1) a')) → Q (Lf (n + 1) i a)) (he : ∀ n a, P N a → Q (Lf (n + 1) N a)) : ∀ fuel i a, i ≤ N → P i a → N - i < fuel → Q (Lf fuel i a) := by
  intro fuel
  induction fuel with
  | zero => intro i a _ _ h; omega
  | succ n ih =>
    intro i a hi hp hf
    by_cases e : i = N
    · subst e; exact he n a hp
    · exact hs n i a (by omega) hp (fun a' ha' => ih (i + 1) a' (by omega) ha' (by omega))
def rgl : List Nat := [0, 0, 1, 1, 1, 1, 1, 1, 1, 2, 2, 2, 2, 2, 2, 2, 0, 0, 0, 0, 0, 0, 0, 0, 0, 0, 0, 0, 0, 0, 0, 0, 0, 0, 0, 0, 0, 0, 0, 0, 0, 0, 0, 0, 0, 0, 0, 0, 0, 0, 0, 0, 4, 5, 6, 6, 6, 6, 6, 6, 6, 6, 6, 6, 6, 6, 6, 6, 6, 6, 10, 15, 11, 11, 11, 11, 11, 11, 16, 16, 16, 16, 16, 10, 17, 17, 10, 10, 12, 10, 10, 10, 14]
def rg (k j : Nat) : Nat := if k = 70 then (if j < 6 then 11 else if j = 6 then 13 else if j = 35 then 14 else if j = 36 then 12 else 10) else if k = 0 then (if j = 9 then 2 else if j = 10 then 3 else 0) else if k = 51 then (if j = 1 then 4 else 0) else if k = 24 ∨ k = 25 ∨ k = 26 then (if j = 0 then 7 else 0) else rgl.getD k 99
def Fr (L : List Nat) (σ τ : nm_St) : Prop := ∀ k j, L.contains (rg k j) = false → τ.1 k j = σ.1 k j ∧ τ.2 k j = σ.2 k j
theorem Fr.rf (L : List Nat) (σ : nm_St) : Fr L σ σ := fun _ _ _ => ⟨rfl, rfl⟩
theorem Fr.tr {L : List Nat} {σ τ ρ : nm_St} (a : Fr L σ τ) (b : Fr L τ ρ) : Fr L σ ρ := fun k j h => ⟨(b k j h).1.trans (a k j h).1, (b k j h).2.trans (a k j h).2⟩
theorem Fr.mono {L M : List Nat} {σ τ : nm_St} (a : Fr L σ τ) (h : L.all (fun r => M.contains r) = true) : Fr M σ τ := fun k j hk => a k j (by
  cases e : L.contains (rg k j) with
  | false => rfl
  | true =>
    rw [List.contains_iff_mem] at e
    have := List.all_eq_true.mp h _ e
    rw [this] at hk
    exact hk)
theorem Fr.pI {L : List Nat} {σ τ : nm_St} (f : Fr L σ τ) {a b : Nat} (x : Int32) (h : L.contains (rg a b) = true) : Fr L σ (nm_pI τ a b x) := fun k j hk => by
  have := f k j hk
  refine ⟨?_, this.2⟩
  rw [← this.1]
  show nm_up τ.1 a b x k j = _
  unfold nm_up
  rw [if_neg]
  rintro ⟨rfl, rfl⟩
  rw [h] at hk
  cases hk
theorem Fr.pJ {L : List Nat} {σ τ : nm_St} (f : Fr L σ τ) {a b : Nat} (x : Int64) (h : L.contains (rg a b) = true) : Fr L σ (nm_pJ τ a b x) := fun k j hk => by
  have := f k j hk
  refine ⟨this.1, ?_⟩
  rw [← this.2]
  show nm_up τ.2 a b x k j = _
  unfold nm_up
  rw [if_neg]
  rintro ⟨rfl, rfl⟩
  rw [h] at hk
  cases hk
/-- nothing but an Island's cells has changed -/
def Out (o : Nat) (σ τ : nm_St) : Prop := (∀ k, (k < o ∨ o + 6 < k) → τ.1 k = σ.1 k) ∧ τ.2 = σ.2
theorem Out.rf (o : Nat) (σ : nm_St) : Out o σ σ := ⟨fun _ _ => rfl, rfl⟩
theorem Out.tr {o : Nat} {σ τ ρ : nm_St} (a : Out o σ τ) (b : Out o τ ρ) : Out o σ ρ := ⟨fun k h => (b.1 k h).trans (a.1 k h), b.2.trans a.2⟩
theorem Out.pI {o : Nat} {σ τ : nm_St} (f : Out o σ τ) {a : Nat} (b : Nat) (x : Int32) (h1 : o ≤ a) (h2 : a ≤ o + 6) : Out o σ (nm_pI τ a b x) := ⟨fun k h => by
  rw [← f.1 k h]
  exact nm_up_ne _ _ _ (by omega), f.2⟩
theorem Out.fr {o : Nat} {L : List Nat} {σ τ : nm_St} (f : Out o σ τ) (h : ∀ i j, i < 7 → L.contains (rg (o + i) j) = true) : Fr L σ τ := fun k j hk => by
  refine ⟨?_, by rw [f.2]⟩
  by_cases e : k < o ∨ o + 6 < k
  · rw [f.1 k e]
  · have := h (k - o) j (by omega)
    rw [show o + (k - o) = k by omega, hk] at this
    cases this
theorem rg_isl (o r : Nat) (h0 : o + 7 ≤ 70) (h1 : 0 < o) (h2 : o + 6 < 51) (h3 : o + 6 < 24 ∨ 26 < o) (h : ((List.range 7).all fun i => decide (rgl.getD (o + i) 99 = r)) = true) : ∀ i j, i < 7 → rg (o + i) j = r := by
  intro i j hi
  have := List.all_eq_true.mp h i (List.mem_range.mpr hi)
  unfold rg
  rw [if_neg (by omega), if_neg (by omega), if_neg (by omega), if_neg (by omega)]
  exact of_decide_eq_true this
theorem Out.fr2 {σ τ : nm_St} (f : Out 2 σ τ) : Fr [1] σ τ := f.fr (fun i j hi => by rw [rg_isl 2 1 (by omega) (by omega) (by omega) (by omega) (by decide) i j hi]; rfl)
theorem Out.fr9 {σ τ : nm_St} (f : Out 9 σ τ) : Fr [2] σ τ := f.fr (fun i j hi => by rw [rg_isl 9 2 (by omega) (by omega) (by omega) (by omega) (by decide) i j hi]; rfl)
theorem Out.fr16 {σ τ : nm_St} (f : Out 16 σ τ) : Fr [0] σ τ := f.fr (fun i j hi => by rw [rg_isl 16 0 (by omega) (by omega) (by omega) (by omega) (by decide) i j hi]; rfl)
theorem Out.fr28 {σ τ : nm_St} (f : Out 28 σ τ) : Fr [0] σ τ := f.fr (fun i j hi => by rw [rg_isl 28 0 (by omega) (by omega) (by omega) (by omega) (by decide) i j hi]; rfl)
theorem Out.fr35 {σ τ : nm_St} (f : Out 35 σ τ) : Fr [0] σ τ := f.fr (fun i j hi => by rw [rg_isl 35 0 (by omega) (by omega) (by omega) (by omega) (by decide) i j hi]; rfl)
theorem Out.fr43 {σ τ : nm_St} (f : Out 43 σ τ) : Fr [0] σ τ := f.fr (fun i j hi => by rw [rg_isl 43 0 (by omega) (by omega) (by omega) (by omega) (by decide) i j hi]; rfl)
/-- an Island changed to T, else nothing -/
def IslU (σ : nm_St) (o : Nat) (τ : nm_St) (T : is_T) : Prop := IslR τ o T ∧ Out o σ τ
theorem IslU.rf {σ : nm_St} {o : Nat} {T : is_T} (h : IslR σ o T) : IslU σ o σ T := ⟨h, Out.rf _ _⟩
theorem IslU.tr {σ τ ρ : nm_St} {o : Nat} {T V : is_T} (a : IslU σ o τ T) (b : IslU τ o ρ V) : IslU σ o ρ V := ⟨b.1, a.2.tr b.2⟩
theorem IslU.up {σ τ : nm_St} {o : Nat} {T : is_T} (h : IslU σ o τ T) {r j : Nat} (v : Nat) (h1 : 1 ≤ r) (h2 : r ≤ 6) (hj : j < 8) : IslU σ o (nm_pI τ (o + r) j (nI v)) (nm_up T r j v) := ⟨h.1.up h1 h2 hj, h.2.pI _ _ (by omega) (by omega)⟩
theorem IslU.up0 {σ τ : nm_St} {o : Nat} {T : is_T} (h : IslU σ o τ T) {j : Nat} (v : Nat) (h1 : 6 ≤ j) (h2 : j < 12) : IslU σ o (nm_pI τ o j (nI v)) (nm_up T 0 j v) := ⟨h.1.up0 h1 h2, h.2.pI _ _ (by omega) (by omega)⟩
/-- the model changed to T, else nothing -/
def MdU (σ τ : nm_St) (T : is_T) : Prop := MdR τ T ∧ Fr [11] σ τ
theorem MdU.rf {σ : nm_St} {T : is_T} (h : MdR σ T) : MdU σ σ T := ⟨h, Fr.rf _ _⟩
theorem MdU.tr {σ τ ρ : nm_St} {T V : is_T} (a : MdU σ τ T) (b : MdU τ ρ V) : MdU σ ρ V := ⟨b.1, a.2.tr b.2⟩
theorem rg_m (r : Nat) (h1 : 1 ≤ r) (h2 : r ≤ 6) (j : Nat) : rg (71 + r) j = 11 := by
  unfold rg
  rw [if_neg (by omega), if_neg (by omega), if_neg (by omega), if_neg (by omega)]
  have : ∀ r, r < 7 → 1 ≤ r → rgl.getD (71 + r) 99 = 11 := by decide
  exact this r (by omega) h1
theorem rg_m0 (j : Nat) (h : j < 6) : rg 70 j = 11 := by
  unfold rg
  rw [if_pos rfl, if_pos h]
theorem MdU.up {σ τ : nm_St} {T : is_T} (h : MdU σ τ T) {r j : Nat} (v : Nat) (h1 : 1 ≤ r) (h2 : r ≤ 6) (hj : j < 8) : MdU σ (nm_pI τ (71 + r) j (nI v)) (nm_up T r j v) := ⟨h.1.up h1 h2 hj, h.2.pI _ (by rw [rg_m r h1 h2]; rfl)⟩
theorem MdU.up0 {σ τ : nm_St} {T : is_T} (h : MdU σ τ T) {j : Nat} (v : Nat) (hj : j < 6) : MdU σ (nm_pI τ 70 j (nI v)) (nm_up T 0 (6 + j) v) := ⟨h.1.up0 hj, h.2.pI _ (by rw [rg_m0 j hj]; rfl)⟩
/-- what an update must be that the island stays one -/
def upOK (r j v : Nat) : Prop := (r = 0 → (j = 6 → v ≤ 8) ∧ (j = 7 → 1 ≤ v ∧ v ≤ 8) ∧ (j = 8 → v ≤ 99) ∧ (j = 9 → v ≤ 9999)) ∧ (r = 1 → v ≤ 6) ∧ (r = 2 → v ≤ 9) ∧ (r = 3 → v ≤ 99) ∧ (r = 4 → v < 256) ∧ (r = 5 → v < 256) ∧ (r = 6 → v ≤ 3)
theorem up_at (T : is_T) (r j v a b : Nat) : nm_up T r j v a b = if a = r ∧ b = j then v else T a b := rfl
theorem IslI.up {T : is_T} (hI : IslI T) {r j v : Nat} (h : upOK r j v) : IslI (nm_up T r j v) := by
  unfold upOK at h
  obtain ⟨h1, h2, h3, h4, h5⟩ := hI
  unfold IslI
  simp only [up_at]
  refine ⟨?_, ?_, ?_, ?_, fun m hm => ?_⟩
  · split <;> omega
  · split <;> omega
  · split <;> omega
  · split <;> omega
  · have := h5 m hm
    refine ⟨?_, ?_, ?_, ?_, ?_, ?_⟩ <;> split <;> omega
/-- SHELVES: U 0 what is held, U 1 sorts, U 2 sizes, U 3 whom; E elements -/
def ShI (U : is_T) (c : Nat) : Prop := ∀ s, s < 8 → (U 0 s ≤ 2 ∧ U 1 s ≤ 3 ∧ U 2 s ≤ 160) ∧ (U 0 s ≠ 1 → U 2 s = 0) ∧ (U 0 s = 2 → U 3 s < c)
def ShC (σ : nm_St) (U : is_T) : Prop := ∀ s, s < 8 → σ.1 (54 + 2 * s) 1 = nI (U 0 s) ∧ σ.1 (54 + 2 * s) 2 = nI (U 1 s) ∧ σ.1 (54 + 2 * s) 3 = nI (U 2 s) ∧ σ.1 (54 + 2 * s) 4 = if U 0 s = 2 then nI (U 3 s) else -nI 1
def ShM (σ : nm_St) (U : is_T) : Prop := ∀ s, s < 8 → σ.1 78 s = nI (U 0 s) ∧ σ.1 79 s = nI (U 1 s) ∧ (U 0 s = 1 → σ.1 80 s = nI (U 2 s)) ∧ (U 0 s = 2 → σ.1 81 s = nI (U 3 s))
def ElC (σ : nm_St) (U : is_T) (E : Nat → Nat → Int64) : Prop := ∀ s i, s < 8 → i < U 2 s → σ.2 (54 + 2 * s + 1) i = E s i
def ElM (σ : nm_St) (U : is_T) (E : Nat → Nat → Int64) : Prop := ∀ s i, s < 8 → i < U 2 s → σ.2 82 (160 * s + i) = E s i
/-- the model's keepers: 48 of the tables, 6 of the counts -/
def KeR (σ : nm_St) (c : Nat) (T : is_T) : Prop := (∀ r j, 1 ≤ r → r ≤ 6 → j < 8 → σ.1 c (8 * (r - 1) + j) = nI (T r j)) ∧ ∀ j, j < 6 → σ.1 c (48 + j) = nI (T 0 (6 + j))
def wdN : List Nat := [112, 97, 114, 116, 115, 32, 0, 109, 97, 107, 101, 114, 32, 0, 107, 110, 111, 119, 115, 32, 0, 107, 105, 110, 32, 0, 102, 101, 97, 114, 32, 0, 112, 117, 114, 115, 101, 32, 0, 103, 111, 101, 115, 32, 0, 100, 105, 101, 115, 32, 0]
def nuN : List Nat := [1, 3, 2, 2, 1, 1, 1, 1]
def CoR (σ : nm_St) : Prop := (∀ i, i < 51 → σ.1 84 i = nI (wdN.getD i 0)) ∧ ∀ i, i < 8 → σ.1 85 i = nI (nuN.getD i 0)
def ImR (σ : nm_St) : Prop := (σ.1 0 9 = nI 0 ∧ σ.1 70 36 = nI 0) ∨ (σ.1 0 9 = nI 1 ∧ σ.1 70 36 = nI 1 ∧ ∃ V : is_T, IslR σ 9 V ∧ KeR σ 88 V ∧ IslI V)
def RfR (σ : nm_St) : Prop := ∀ i, 1 ≤ i → i ≤ 7 → σ.1 53 i = σ.1 71 i
/-- the first of all lists of sets is the empty set, always -/
def ZR (σ : nm_St) : Prop := σ.1 24 0 = nI 0 ∧ σ.1 25 0 = nI 0 ∧ σ.1 26 0 = nI 0
def TrR (σ : nm_St) : Prop := ∃ r : Nat, r ≤ 100 ∧ σ.1 51 1 = nI r ∧ σ.1 70 35 = nI r ∧ (∀ i, i < r → i < 20 → σ.1 52 i = σ.1 92 i) ∧ ZR σ
def CF (σ : nm_St) (T U : is_T) (E : Nat → Nat → Int64) : Prop := IslR σ 2 T ∧ ShC σ U ∧ ElC σ U E
def MF (σ : nm_St) (T U : is_T) (E : Nat → Nat → Int64) : Prop := MdR σ T ∧ ShM σ U ∧ ElM σ U E ∧ CoR σ
def PF (T U : is_T) : Prop := IslI T ∧ ShI U (T 0 6)
def XF (σ : nm_St) : Prop := ImR σ ∧ σ.1 0 10 = σ.1 70 6 ∧ RfR σ ∧ TrR σ
def RelT (σ : nm_St) (T U : is_T) (E : Nat → Nat → Int64) : Prop := CF σ T U E ∧ MF σ T U E ∧ PF T U ∧ XF σ
def Rel (σ : nm_St) : Prop := ∃ T U E, RelT σ T U E
theorem sh_ix {s : Nat} (h : s < 8) : s = 0 ∨ s = 1 ∨ s = 2 ∨ s = 3 ∨ s = 4 ∨ s = 5 ∨ s = 6 ∨ s = 7 := by omega
theorem rg_sh {s : Nat} (h : s < 8) (j : Nat) : rg (54 + 2 * s) j = 6 ∧ rg (54 + 2 * s + 1) j = 6 := by
  rcases sh_ix h with rfl | rfl | rfl | rfl | rfl | rfl | rfl | rfl <;> exact ⟨rfl, rfl⟩
section FRS
variable {σ τ : nm_St} {T U V : is_T} {E : Nat → Nat → Int64} {L : List Nat} {o c : Nat}
theorem IslR.fr2 (h : IslR σ 2 T) (f : Fr L σ τ) (hL : L.contains 1 = false) : IslR τ 2 T := by
  refine ⟨fun r j h1 h2 hj => ?_, fun j h1 h2 => ?_⟩
  · rw [← h.1 r j h1 h2 hj]
    exact (f _ _ (by rw [rg_isl 2 1 (by omega) (by omega) (by omega) (by omega) (by decide) r j (by omega)]; exact hL)).1
  · rw [← h.2 j h1 h2]
    exact (f _ _ (by rw [show rg 2 j = 1 from rfl]; exact hL)).1
theorem IslR.fr9 (h : IslR σ 9 T) (f : Fr L σ τ) (hL : L.contains 2 = false) : IslR τ 9 T := by
  refine ⟨fun r j h1 h2 hj => ?_, fun j h1 h2 => ?_⟩
  · rw [← h.1 r j h1 h2 hj]
    exact (f _ _ (by rw [rg_isl 9 2 (by omega) (by omega) (by omega) (by omega) (by decide) r j (by omega)]; exact hL)).1
  · rw [← h.2 j h1 h2]
    exact (f _ _ (by rw [show rg 9 j = 2 from rfl]; exact hL)).1
theorem MdR.fr (h : MdR σ T) (f : Fr L σ τ) (hL : L.contains 11 = false) : MdR τ T := by
  refine ⟨fun r j h1 h2 hj => ?_, fun j h1 => ?_⟩
  · rw [← h.1 r j h1 h2 hj]
    exact (f _ _ (by rw [rg_m r h1 h2]; exact hL)).1
  · rw [← h.2 j h1]
    exact (f _ _ (by rw [rg_m0 j h1]; exact hL)).1
theorem ShC.fr (h : ShC σ U) (f : Fr L σ τ) (hL : L.contains 6 = false) : ShC τ U := fun s hs => by
  have g : ∀ j, τ.1 (54 + 2 * s) j = σ.1 (54 + 2 * s) j := fun j => (f _ _ (by rw [(rg_sh hs j).1]; exact hL)).1
  rw [g, g, g, g]
  exact h s hs
theorem ElC.fr (h : ElC σ U E) (f : Fr L σ τ) (hL : L.contains 6 = false) : ElC τ U E := fun s i hs hi => by
  rw [← h s i hs hi]
  exact (f _ _ (by rw [(rg_sh hs i).2]; exact hL)).2
theorem ShM.fr (h : ShM σ U) (f : Fr L σ τ) (hL : L.contains 16 = false) : ShM τ U := fun s hs => by
  rw [(f 78 s (by rw [show rg 78 s = 16 from rfl]; exact hL)).1, (f 79 s (by rw [show rg 79 s = 16 from rfl]; exact hL)).1, (f 80 s (by rw [show rg 80 s = 16 from rfl]; exact hL)).1, (f 81 s (by rw [show rg 81 s = 16 from rfl]; exact hL)).1]
  exact h s hs
theorem ElM.fr (h : ElM σ U E) (f : Fr L σ τ) (hL : L.contains 16 = false) : ElM τ U E := fun s i hs hi => by
  rw [← h s i hs hi]
  exact (f _ _ (by rw [show rg 82 (160 * s + i) = 16 from rfl]; exact hL)).2
theorem CoR.fr (h : CoR σ) (f : Fr L σ τ) (hL : L.contains 17 = false) : CoR τ := by
  refine ⟨fun i hi => ?_, fun i hi => ?_⟩
  · rw [(f 84 i (by rw [show rg 84 i = 17 from rfl]; exact hL)).1]; exact h.1 i hi
  · rw [(f 85 i (by rw [show rg 85 i = 17 from rfl]; exact hL)).1]; exact h.2 i hi
theorem KeR.fr (h : KeR σ 88 T) (f : Fr L σ τ) (hL : L.contains 12 = false) : KeR τ 88 T := by
  refine ⟨fun r j h1 h2 hj => ?_, fun j h1 => ?_⟩
  · rw [← h.1 r j h1 h2 hj]
    exact (f _ _ (by rw [show rg 88 (8 * (r - 1) + j) = 12 from rfl]; exact hL)).1
  · rw [← h.2 j h1]
    exact (f _ _ (by rw [show rg 88 (48 + j) = 12 from rfl]; exact hL)).1
theorem ImR.fr (h : ImR σ) (f : Fr L σ τ) (h2 : L.contains 2 = false) (h12 : L.contains 12 = false) : ImR τ := by
  have e1 := (f 0 9 (by rw [show rg 0 9 = 2 from rfl]; exact h2)).1
  have e2 := (f 70 36 (by rw [show rg 70 36 = 12 from rfl]; exact h12)).1
  rcases h with ⟨a, b⟩ | ⟨a, b, V, hV, hK, hI⟩
  · exact Or.inl ⟨e1.trans a, e2.trans b⟩
  · exact Or.inr ⟨e1.trans a, e2.trans b, V, hV.fr9 f h2, hK.fr f h12, hI⟩
theorem RfR.fr (h : RfR σ) (f : Fr L σ τ) (h2 : L.contains 5 = false) (h12 : L.contains 15 = false) : RfR τ := fun i a b => by
  rw [(f 53 i (by rw [show rg 53 i = 5 from rfl]; exact h2)).1, (f 71 i (by rw [show rg 71 i = 15 from rfl]; exact h12)).1]
  exact h i a b
theorem ZR.fr (h : ZR σ) (f : Fr L σ τ) (h7 : L.contains 7 = false) : ZR τ := by
  refine ⟨?_, ?_, ?_⟩
  · rw [(f 24 0 (by rw [show rg 24 0 = 7 from rfl]; exact h7)).1]; exact h.1
  · rw [(f 25 0 (by rw [show rg 25 0 = 7 from rfl]; exact h7)).1]; exact h.2.1
  · rw [(f 26 0 (by rw [show rg 26 0 = 7 from rfl]; exact h7)).1]; exact h.2.2
theorem TrR.fr (h : TrR σ) (f : Fr L σ τ) (h2 : L.contains 4 = false) (h12 : L.contains 14 = false) (h7 : L.contains 7 = false := by rfl) : TrR τ := by
  obtain ⟨r, h0, a, b, d, z⟩ := h
  refine ⟨r, h0, ?_, ?_, fun i hi hj => ?_, z.fr f h7⟩
  · rw [(f 51 1 (by rw [show rg 51 1 = 4 from rfl]; exact h2)).1]; exact a
  · rw [(f 70 35 (by rw [show rg 70 35 = 14 from rfl]; exact h12)).1]; exact b
  · rw [(f 52 i (by rw [show rg 52 i = 4 from rfl]; exact h2)).1, (f 92 i (by rw [show rg 92 i = 14 from rfl]; exact h12)).1]; exact d i hi hj
theorem CF.fr (h : CF σ T U E) (f : Fr L σ τ) (h1 : L.contains 1 = false) (h6 : L.contains 6 = false) : CF τ T U E := ⟨h.1.fr2 f h1, h.2.1.fr f h6, h.2.2.fr f h6⟩
theorem MF.fr (h : MF σ T U E) (f : Fr L σ τ) (h1 : L.contains 11 = false) (h6 : L.contains 16 = false) (h7 : L.contains 17 = false) : MF τ T U E := ⟨h.1.fr f h1, h.2.1.fr f h6, h.2.2.1.fr f h6, h.2.2.2.fr f h7⟩
theorem XF.fr (h : XF σ) (f : Fr L σ τ) (h1 : [2, 3, 4, 5, 12, 13, 14, 15, 7].all (fun r => !L.contains r) = true) : XF τ := by
  simp only [List.all_cons, List.all_nil, Bool.and_true, Bool.and_eq_true, Bool.not_eq_true'] at h1
  obtain ⟨a2, a3, a4, a5, a12, a13, a14, a15, a7⟩ := h1
  refine ⟨h.1.fr f a2 a12, ?_, h.2.2.1.fr f a5 a15, h.2.2.2.fr f a4 a14 a7⟩
  rw [(f 0 10 (by rw [show rg 0 10 = 3 from rfl]; exact a3)).1, (f 70 6 (by rw [show rg 70 6 = 13 from rfl]; exact a13)).1]
  exact h.2.1
end FRS
/-! refusals -/
theorem pI_pI (σ : nm_St) (a b : Nat) (x y : Int32) : nm_pI (nm_pI σ a b x) a b y = nm_pI σ a b y := by
  unfold nm_pI
  congr 1
  funext i j
  unfold nm_up
  by_cases e : i = a ∧ j = b <;> simp [e]
theorem pI_ne (σ : nm_St) {a b c d : Nat} (x : Int32) (h : ¬ (c = a ∧ d = b)) : (nm_pI σ a b x).1 c d = σ.1 c d := if_neg h
theorem pI_eq (σ : nm_St) (a b : Nat) (x : Int32) : (nm_pI σ a b x).1 a b = x := if_pos ⟨rfl, rfl⟩
def rfC (σ : nm_St) (n : Nat) : nm_St := nm_pI σ 53 n (σ.1 53 n + 1)
def rfM (σ : nm_St) (n : Nat) : nm_St := nm_pI σ 71 n (σ.1 71 n + 1)
theorem nm_ref {n : Nat} (h1 : 1 ≤ n) (h7 : n ≤ 7) (σ : nm_St) : Nm_refuse (-nI n) σ = some (-nI n, rfC σ n) := by
  unfold Nm_refuse rfC
  rw [Int32.neg_neg]
  simp (disch := omega) only [pl_0, pl_1, pl_2, pl_3, pl_4, pl_5, pl_6, pl_7, pl_8, pl_9, pl_10, pl_11, pl_12, pl_13, pl_14, pl_15, pl_16, pl_17, pl_18, pl_19, pl_20, pl_21, pl_30, pl_40, pl_50, pl_51, pl_60, pl_70, pl_71, pl_99, pl_100, pl_160, pl_240, pl_256, pl_300, pl_999, pl_1000, pl_1280, pl_9999, pl_10000, pu_neg, pu_nn, pu_le, pu_lt, pu_eq, pu_cl, pu_in, pu_g, pu_let, pu_bind, pu_m1, pu_add, pu_mul, Nat.not_lt_zero, if_false, if_true, Nat.zero_le, pu_d2, pu_d100]
  rw [if_neg (by omega), if_neg (by omega)]
theorem md_no {n : Nat} (h1 : 1 ≤ n) (h7 : n ≤ 7) (σ : nm_St) : Md_no (-nI n) σ = some (-nI n, rfM σ n) := by
  unfold Md_no rfM
  rw [Int32.neg_neg]
  simp (disch := omega) only [pl_0, pl_1, pl_2, pl_3, pl_4, pl_5, pl_6, pl_7, pl_8, pl_9, pl_10, pl_11, pl_12, pl_13, pl_14, pl_15, pl_16, pl_17, pl_18, pl_19, pl_20, pl_21, pl_30, pl_40, pl_50, pl_51, pl_60, pl_70, pl_71, pl_99, pl_100, pl_160, pl_240, pl_256, pl_300, pl_999, pl_1000, pl_1280, pl_9999, pl_10000, pu_neg, pu_nn, pu_le, pu_lt, pu_eq, pu_cl, pu_in, pu_g, pu_let, pu_bind, pu_m1, pu_add, pu_mul, Nat.not_lt_zero, if_false, if_true, Nat.zero_le, pu_d2, pu_d100]
theorem nm_refF {n : Nat} (h1 : 1 ≤ n) (h7 : n ≤ 7) (σ : nm_St) : Nm_refuseFar (-nI n) σ = some (-nI n - nI 10, rfC σ n) := by
  unfold Nm_refuseFar
  rw [nm_ref h1 h7]
  rfl
theorem md_noT {n : Nat} (h1 : 1 ≤ n) (h7 : n ≤ 7) (σ : nm_St) : Md_noTen (-nI n) σ = some (-nI n - nI 10, rfM σ n) := by
  unfold Md_noTen rfM
  rw [Int32.neg_neg]
  simp (disch := omega) only [pl_0, pl_1, pl_2, pl_3, pl_4, pl_5, pl_6, pl_7, pl_8, pl_9, pl_10, pl_11, pl_12, pl_13, pl_14, pl_15, pl_16, pl_17, pl_18, pl_19, pl_20, pl_21, pl_30, pl_40, pl_50, pl_51, pl_60, pl_70, pl_71, pl_99, pl_100, pl_160, pl_240, pl_256, pl_300, pl_999, pl_1000, pl_1280, pl_9999, pl_10000, pu_neg, pu_nn, pu_le, pu_lt, pu_eq, pu_cl, pu_in, pu_g, pu_let, pu_bind, pu_m1, pu_add, pu_mul, Nat.not_lt_zero, if_false, if_true, Nat.zero_le, pu_d2, pu_d100]
/-- what a call may leave: nothing of weight, or that and a refusal -/
def CO (n : Nat) (σ τ : nm_St) : Prop := (n = 0 ∧ Fr [0] σ τ) ∨ (1 ≤ n ∧ ∃ ρ, Fr [0] σ ρ ∧ τ = rfC ρ n)
def MO (n : Nat) (σ τ : nm_St) : Prop := (n = 0 ∧ Fr [10] σ τ) ∨ (1 ≤ n ∧ ∃ ρ, Fr [10] σ ρ ∧ τ = rfM ρ n)
theorem CO.ok {σ τ : nm_St} (f : Fr [0] σ τ) : CO 0 σ τ := Or.inl ⟨rfl, f⟩
theorem MO.ok {σ τ : nm_St} (f : Fr [10] σ τ) : MO 0 σ τ := Or.inl ⟨rfl, f⟩
theorem CO.rf (σ : nm_St) : CO 0 σ σ := CO.ok (Fr.rf _ _)
theorem MO.rf (σ : nm_St) : MO 0 σ σ := MO.ok (Fr.rf _ _)
theorem CO.no {n : Nat} (h : 1 ≤ n) (σ : nm_St) : CO n σ (rfC σ n) := Or.inr ⟨h, σ, Fr.rf _ _, rfl⟩
theorem MO.no {n : Nat} (h : 1 ≤ n) (σ : nm_St) : MO n σ (rfM σ n) := Or.inr ⟨h, σ, Fr.rf _ _, rfl⟩
def OkB {β : Type} (σ : nm_St) (f g : nm_St → Option (β × nm_St)) : Prop := ∃ a τ τ', f σ = some (a, τ) ∧ g τ = some (a, τ') ∧ Rel τ'
/-- calls that change nothing of weight -/
def OkQ {β : Type} (T U : is_T) (E : Nat → Nat → Int64) (f g : nm_St → Option (β × nm_St)) : Prop := ∃ n a, n ≤ 7 ∧ (∀ σ, CF σ T U E → ∃ τ, f σ = some (a, τ) ∧ CO n σ τ) ∧ (∀ σ, MF σ T U E → ∃ τ, g σ = some (a, τ) ∧ MO n σ τ)
/-- calls that change the island -/
def OkM {β : Type} (T U : is_T) (E : Nat → Nat → Int64) (f g : nm_St → Option (β × nm_St)) : Prop := ∃ a V, IslI V ∧ T 0 6 ≤ V 0 6 ∧ (∀ σ, CF σ T U E → ∃ τ, f σ = some (a, τ) ∧ IslR τ 2 V ∧ Fr [0, 1] σ τ) ∧ (∀ σ, MF σ T U E → ∃ τ, g σ = some (a, τ) ∧ MdR τ V ∧ Fr [10, 11] σ τ)
theorem ok_q {β : Type} {σ : nm_St} {T U : is_T} {E : Nat → Nat → Int64} {f g : nm_St → Option (β × nm_St)} (h : RelT σ T U E) (q : OkQ T U E f g) : OkB σ f g := by
  obtain ⟨n, a, hn, hC, hM⟩ := q
  obtain ⟨hc, hm, hp, hx⟩ := h
  obtain ⟨τ, e1, f1⟩ := hC σ hc
  have F1 : Fr [0, 5] σ τ := by
    rcases f1 with ⟨-, f1⟩ | ⟨-, ρ, f1, rfl⟩
    · exact f1.mono rfl
    · exact (f1.mono rfl).pI _ rfl
  obtain ⟨τ', e2, f2⟩ := hM τ (hm.fr F1 rfl rfl rfl)
  have F2 : Fr [10, 15] τ τ' := by
    rcases f2 with ⟨-, f2⟩ | ⟨-, ρ, f2, rfl⟩
    · exact f2.mono rfl
    · exact (f2.mono rfl).pI _ rfl
  have F : Fr [0, 5, 10, 15] σ τ' := (F1.mono rfl).tr (F2.mono rfl)
  refine ⟨a, τ, τ', e1, e2, T, U, E, hc.fr F rfl rfl, hm.fr F rfl rfl rfl, hp, ?_⟩
  refine ⟨hx.1.fr F rfl rfl, ?_, ?_, hx.2.2.2.fr F rfl rfl⟩
  · rw [(F 0 10 rfl).1, (F 70 6 rfl).1]; exact hx.2.1
  · intro i h1 h7
    have hr := hx.2.2.1 i h1 h7
    rcases f1 with ⟨hz, f1⟩ | ⟨h0, ρ, f1, rfl⟩
    · rcases f2 with ⟨-, f2⟩ | ⟨h0, ρ2, f2, rfl⟩
      · rw [(f2 53 i rfl).1, (f2 71 i rfl).1, (f1 53 i rfl).1, (f1 71 i rfl).1]; exact hr
      · omega
    · rcases f2 with ⟨hz, f2⟩ | ⟨-, ρ2, f2, rfl⟩
      · omega
      · have a1 : (rfM ρ2 n).1 53 i = (rfC ρ n).1 53 i := by
          unfold rfM
          rw [pI_ne _ _ (by omega), (f2 53 i rfl).1]
        have a2 : ∀ j, (rfC ρ n).1 71 j = σ.1 71 j := fun j => by
          unfold rfC
          rw [pI_ne _ _ (by omega), (f1 71 j rfl).1]
        rw [a1]
        by_cases e : i = n
        · subst e
          unfold rfM
          rw [pI_eq, (f2 71 i rfl).1, a2]
          unfold rfC
          rw [pI_eq, (f1 53 i rfl).1, hr]
        · unfold rfM
          rw [pI_ne _ _ (by omega), (f2 71 i rfl).1, a2]
          unfold rfC
          rw [pI_ne _ _ (by omega), (f1 53 i rfl).1, hr]
theorem ok_m {β : Type} {σ : nm_St} {T U : is_T} {E : Nat → Nat → Int64} {f g : nm_St → Option (β × nm_St)} (h : RelT σ T U E) (q : OkM T U E f g) : OkB σ f g := by
  obtain ⟨a, V, hV, hle, hC, hM⟩ := q
  obtain ⟨hc, hm, hp, hx⟩ := h
  obtain ⟨τ, e1, i1, f1⟩ := hC σ hc
  obtain ⟨τ', e2, i2, f2⟩ := hM τ (hm.fr f1 rfl rfl rfl)
  have F : Fr [0, 1, 10, 11] σ τ' := (f1.mono rfl).tr (f2.mono rfl)
  refine ⟨a, τ, τ', e1, e2, V, U, E, ⟨i1.fr2 f2 rfl, hc.2.1.fr F rfl, hc.2.2.fr F rfl⟩, ⟨i2, hm.2.1.fr F rfl, hm.2.2.1.fr F rfl, hm.2.2.2.fr F rfl⟩, ⟨hV, fun s hs => ?_⟩, hx.fr F rfl⟩
  have := hp.2 s hs
  exact ⟨this.1, this.2.1, fun e => by have := this.2.2 e; omega⟩
/-! arguments: below 0, or beyond -/
theorem ngl {x : Int32} (h : x < 0) {k : Nat} (hk : k < 2147483648) : (x < nI k) = True := eq_true (Int32.lt_iff_toInt_lt.mpr (by
  have h1 := Int32.lt_iff_toInt_lt.mp h
  rw [nI_toInt (by omega)]
  have h3 : (0 : Int32).toInt = 0 := by decide
  omega))
theorem nge {x : Int32} (h : x < 0) {k : Nat} (hk : k < 2147483648) : (nI k ≤ x) = False := eq_false (fun q => by
  have h1 := Int32.lt_iff_toInt_lt.mp h
  have h2 := Int32.le_iff_toInt_le.mp q
  rw [nI_toInt (by omega)] at h2
  have h3 : (0 : Int32).toInt = 0 := by decide
  omega)
theorem ngle {x : Int32} (h : x < 0) {k : Nat} (hk : k < 2147483648) : (x ≤ nI k) = True := eq_true (Int32.le_iff_toInt_le.mpr (by
  have h1 := Int32.lt_iff_toInt_lt.mp h
  rw [nI_toInt (by omega)]
  have h3 : (0 : Int32).toInt = 0 := by decide
  omega))
theorem nggt {x : Int32} (h : x < 0) {k : Nat} (hk : k < 2147483648) : (nI k < x) = False := eq_false (fun q => by
  have h1 := Int32.lt_iff_toInt_lt.mp h
  have h2 := Int32.lt_iff_toInt_lt.mp q
  rw [nI_toInt (by omega)] at h2
  have h3 : (0 : Int32).toInt = 0 := by decide
  omega)
theorem ngne {x : Int32} (h : x < 0) {k : Nat} (hk : k < 2147483648) : (x = nI k) = False := eq_false (fun q => by
  rw [q] at h
  exact nI_pos (by omega) h)
theorem bgl {x : Int32} {N : Nat} (h : nI N ≤ x) (hN : N < 2147483648) {k : Nat} (hk : k ≤ N) : (x < nI k) = False := eq_false (fun q => by
  have h1 := Int32.le_iff_toInt_le.mp h
  have h2 := Int32.lt_iff_toInt_lt.mp q
  rw [nI_toInt (by omega)] at h1 h2
  omega)
theorem bge {x : Int32} {N : Nat} (h : nI N ≤ x) (hN : N < 2147483648) {k : Nat} (hk : k ≤ N) : (nI k ≤ x) = True := eq_true (Int32.le_iff_toInt_le.mpr (by
  have h1 := Int32.le_iff_toInt_le.mp h
  rw [nI_toInt (by omega)] at h1 ⊢
  omega))
theorem bgle {x : Int32} {N : Nat} (h : nI N ≤ x) (hN : N < 2147483648) {k : Nat} (hk : k < N) : (x ≤ nI k) = False := eq_false (fun q => by
  have h1 := Int32.le_iff_toInt_le.mp h
  have h2 := Int32.le_iff_toInt_le.mp q
  rw [nI_toInt (by omega)] at h1 h2
  omega)
theorem bggt {x : Int32} {N : Nat} (h : nI N ≤ x) (hN : N < 2147483648) {k : Nat} (hk : k < N) : (nI k < x) = True := eq_true (Int32.lt_iff_toInt_lt.mpr (by
  have h1 := Int32.le_iff_toInt_le.mp h
  rw [nI_toInt (by omega)] at h1 ⊢
  omega))
theorem bgne {x : Int32} {N : Nat} (h : nI N ≤ x) (hN : N < 2147483648) {k : Nat} (hk : k < N) : (x = nI k) = False := eq_false (fun q => by
  have h1 := Int32.le_iff_toInt_le.mp h
  rw [q, nI_toInt (by omega), nI_toInt (by omega)] at h1
  omega)
theorem bgm1 {x : Int32} {N : Nat} (h : nI N ≤ x) (hN : N < 2147483648) : (x = -nI 1) = False := eq_false (fun q => by
  have h1 := Int32.le_iff_toInt_le.mp h
  rw [q, nI_toInt (by omega)] at h1
  have h3 : (-nI 1 : Int32).toInt = -1 := by decide +kernel
  omega)
theorem sf_n {s : Nat} (h : s < 2147483648) : nm_sf (nI s) = 54 + 2 * s := by
  unfold nm_sf
  rw [pu_cl h]
theorem pu_ng (n : Nat) (h1 : 1 ≤ n) (h : n < 2147483648) : (-nI n = nI 0) = False := eq_false (fun q => by
  have h2 : -nI n + nI n = nI 0 + nI n := by rw [q]
  rw [Int32.add_left_neg, nI_0, Int32.zero_add] at h2
  exact nI_ne0 h1 h h2.symm)
