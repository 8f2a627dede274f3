/-! the law: a step an op -/
section STP
variable {X : nm_X} {K : nm_St → Option (Int32 × nm_St)} {n i : Nat} {σ τ : nm_St}
/-- one step of the law's loop went well -/
def LwS (X : nm_X) (K : nm_St → Option (Int32 × nm_St)) (n i : Nat) (r : Option (Int32 × nm_St)) : Prop := ∃ τ, Rel τ ∧ r = La_law_l18 X K n (nI (i + 6)) τ
theorem ws_t {c : Prop} {d : Decidable c} {A B : Option (Int32 × nm_St)} (h : c) (k : LwS X K n i A) : LwS X K n i (@_root_.ite _ c d A B) := by
  rw [if_pos h]; exact k
theorem ws_f {c : Prop} {d : Decidable c} {A B : Option (Int32 × nm_St)} (h : ¬ c) (k : LwS X K n i B) : LwS X K n i (@_root_.ite _ c d A B) := by
  rw [if_neg h]; exact k
theorem ws_i {c : Prop} {d : Decidable c} {A B : Option (Int32 × nm_St)} (h : LwS X K n i A) (k : LwS X K n i B) : LwS X K n i (@_root_.ite _ c d A B) := by
  by_cases e : c
  · exact ws_t e h
  · exact ws_f e k
theorem ws_g {x : Int32} {N : Nat} {A : Option (Int32 × nm_St)} (h : nm_in x N = true) (k : LwS X K n i A) : LwS X K n i (nm_g (nm_in x N) A) := by
  rw [h, pu_g]; exact k
theorem ws_b {β : Type} {x : Option (β × nm_St)} {a : β} {F : β × nm_St → Option (Int32 × nm_St)} (e : x = some (a, τ)) (k : LwS X K n i (F (a, τ))) : LwS X K n i (x.bind F) := by
  rw [e]; exact k
theorem six_n (i : Nat) : nI i + 6 = nI (i + 6) := by
  rw [pl_6, pu_add]
theorem ws_l (r : Rel τ) : LwS X K n i (La_law_l18 X K n (nI i + 6) τ) := ⟨τ, r, by rw [six_n]⟩
theorem ws_e {a : Int32} {d : Decidable (a = a)} {B : Option (Int32 × nm_St)} (r : Rel τ) : LwS X K n i (@_root_.ite _ (a = a) d (La_law_l18 X K n (nI i + 6) τ) B) := ws_t rfl (ws_l r)
theorem lg_eq (a : Int64) : lg_cmp a a = 0 := by
  unfold lg_cmp
  rw [if_neg (Int64.lt_irrefl (a := a)), if_pos rfl]
theorem ws_ej {a : Int64} {d : Decidable (lg_cmp a a = 0)} {B : Option (Int32 × nm_St)} (r : Rel τ) : LwS X K n i (@_root_.ite _ (lg_cmp a a = 0) d (La_law_l18 X K n (nI i + 6) τ) B) := ws_t (lg_eq a) (ws_l r)
theorem ok_or {β : Type} {T U : is_T} {E : Nat → Nat → Int64} {f g : nm_St → Option (β × nm_St)} (h : RelT σ T U E) (k : OkQ T U E f g ∨ OkM T U E f g) : OkB σ f g := k.elim (ok_q h) (ok_m h)
def LwT (X : nm_X) (K : nm_St → Option (Int32 × nm_St)) (n i : Nat) (σ : nm_St) (r : Option (Int32 × nm_St)) : Prop := Rel σ → i + 6 ≤ nm_L X → nm_L X ≤ 3072 → LwS X K n i r
theorem wt_g {X : nm_X} {i k : Nat} {y : Int32} (e : y = nI k) (h : i + 6 ≤ nm_L X) (hL : nm_L X ≤ 3072) (hk : k < 6) : nm_in (nI i + y) (nm_L X) = true := by
  rw [e, pu_add]
  exact pu_in (by omega) (by omega)
theorem wt_0 {X : nm_X} {i : Nat} (h : i + 6 ≤ nm_L X) (hL : nm_L X ≤ 3072) : nm_in (nI i) (nm_L X) = true := pu_in (by omega) (by omega)
theorem sq_row : LwT X K n i σ ((nm_g (nm_in ((nI i) + (1 : Int32)) (nm_L X)) ( (nm_g (nm_in ((nI i) + (2 : Int32)) (nm_L X)) ( (nm_g (nm_in ((nI i) + (3 : Int32)) (nm_L X)) ( ((Nm_row (nm_xs X ((nI i) + (1 : Int32)).toNatClampNeg) (nm_xs X ((nI i) + (2 : Int32)).toNatClampNeg) (nm_xs X ((nI i) + (3 : Int32)).toNatClampNeg) σ).bind fun q7 => (nm_g (nm_in ((nI i) + (1 : Int32)) (nm_L X)) ( (nm_g (nm_in ((nI i) + (2 : Int32)) (nm_L X)) ( (nm_g (nm_in ((nI i) + (3 : Int32)) (nm_L X)) ( ((Md_row (nm_xs X ((nI i) + (1 : Int32)).toNatClampNeg) (nm_xs X ((nI i) + (2 : Int32)).toNatClampNeg) (nm_xs X ((nI i) + (3 : Int32)).toNatClampNeg) q7.2).bind fun q11 => (if q7.1 = q11.1 then (La_law_l18 X K n) ((nI i) + (6 : Int32)) q11.2 else some ((0 : Int32), q11.2))))))))))))))))) := by
  intro hr h6 hL
  obtain ⟨T, U, E, h⟩ := hr
  obtain ⟨a, τ, τ', e1, e2, r⟩ := op_row h (nm_xs X (nI i + (1 : Int32)).toNatClampNeg) (nm_xs X (nI i + (2 : Int32)).toNatClampNeg) (nm_xs X (nI i + (3 : Int32)).toNatClampNeg)
  exact ws_g (wt_g pl_1 h6 hL (by omega)) <| ws_g (wt_g pl_2 h6 hL (by omega)) <| ws_g (wt_g pl_3 h6 hL (by omega)) <| ws_b e1 <| ws_g (wt_g pl_1 h6 hL (by omega)) <| ws_g (wt_g pl_2 h6 hL (by omega)) <| ws_g (wt_g pl_3 h6 hL (by omega)) <| ws_b e2 <| ws_e r
theorem sq_set : LwT X K n i σ ((nm_g (nm_in ((nI i) + (1 : Int32)) (nm_L X)) ( (nm_g (nm_in ((nI i) + (2 : Int32)) (nm_L X)) ( (nm_g (nm_in ((nI i) + (3 : Int32)) (nm_L X)) ( (nm_g (nm_in ((nI i) + (4 : Int32)) (nm_L X)) ( ((Nm_set (nm_xs X ((nI i) + (1 : Int32)).toNatClampNeg) (nm_xs X ((nI i) + (2 : Int32)).toNatClampNeg) (((Int32.toInt64 (nm_xs X ((nI i) + (3 : Int32)).toNatClampNeg)) <<< (Int32.toInt64 (32 : Int32) &&& 63)) ||| ((Int32.toInt64 (nm_xs X ((nI i) + (4 : Int32)).toNatClampNeg)) &&& (4294967295 : Int64))) σ).bind fun q17 => (nm_g (nm_in ((nI i) + (1 : Int32)) (nm_L X)) ( (nm_g (nm_in ((nI i) + (2 : Int32)) (nm_L X)) ( (nm_g (nm_in ((nI i) + (3 : Int32)) (nm_L X)) ( (nm_g (nm_in ((nI i) + (4 : Int32)) (nm_L X)) ( ((Md_set (nm_xs X ((nI i) + (1 : Int32)).toNatClampNeg) (nm_xs X ((nI i) + (2 : Int32)).toNatClampNeg) (((Int32.toInt64 (nm_xs X ((nI i) + (3 : Int32)).toNatClampNeg)) <<< (Int32.toInt64 (32 : Int32) &&& 63)) ||| ((Int32.toInt64 (nm_xs X ((nI i) + (4 : Int32)).toNatClampNeg)) &&& (4294967295 : Int64))) q17.2).bind fun q22 => (if q17.1 = q22.1 then (La_law_l18 X K n) ((nI i) + (6 : Int32)) q22.2 else some ((0 : Int32), q22.2))))))))))))))))))))) := by
  intro hr h6 hL
  obtain ⟨T, U, E, h⟩ := hr
  obtain ⟨a, τ, τ', e1, e2, r⟩ := op_set h (nm_xs X (nI i + (1 : Int32)).toNatClampNeg) (nm_xs X (nI i + (2 : Int32)).toNatClampNeg) (((Int32.toInt64 (nm_xs X (nI i + (3 : Int32)).toNatClampNeg)) <<< (Int32.toInt64 (32 : Int32) &&& 63)) ||| ((Int32.toInt64 (nm_xs X (nI i + (4 : Int32)).toNatClampNeg)) &&& (4294967295 : Int64)))
  exact ws_g (wt_g pl_1 h6 hL (by omega)) <| ws_g (wt_g pl_2 h6 hL (by omega)) <| ws_g (wt_g pl_3 h6 hL (by omega)) <| ws_g (wt_g pl_4 h6 hL (by omega)) <| ws_b e1 <| ws_g (wt_g pl_1 h6 hL (by omega)) <| ws_g (wt_g pl_2 h6 hL (by omega)) <| ws_g (wt_g pl_3 h6 hL (by omega)) <| ws_g (wt_g pl_4 h6 hL (by omega)) <| ws_b e2 <| ws_e r
theorem sq_copy : LwT X K n i σ ((nm_g (nm_in ((nI i) + (1 : Int32)) (nm_L X)) ( (nm_g (nm_in ((nI i) + (2 : Int32)) (nm_L X)) ( (nm_g (nm_in ((nI i) + (3 : Int32)) (nm_L X)) ( (nm_g (nm_in ((nI i) + (4 : Int32)) (nm_L X)) ( (nm_g (nm_in ((nI i) + (5 : Int32)) (nm_L X)) ( ((Nm_copy (nm_xs X ((nI i) + (1 : Int32)).toNatClampNeg) (nm_xs X ((nI i) + (2 : Int32)).toNatClampNeg) (nm_xs X ((nI i) + (3 : Int32)).toNatClampNeg) (nm_xs X ((nI i) + (4 : Int32)).toNatClampNeg) (nm_xs X ((nI i) + (5 : Int32)).toNatClampNeg) σ).bind fun q29 => (nm_g (nm_in ((nI i) + (1 : Int32)) (nm_L X)) ( (nm_g (nm_in ((nI i) + (2 : Int32)) (nm_L X)) ( (nm_g (nm_in ((nI i) + (3 : Int32)) (nm_L X)) ( (nm_g (nm_in ((nI i) + (4 : Int32)) (nm_L X)) ( (nm_g (nm_in ((nI i) + (5 : Int32)) (nm_L X)) ( ((Md_copy (nm_xs X ((nI i) + (1 : Int32)).toNatClampNeg) (nm_xs X ((nI i) + (2 : Int32)).toNatClampNeg) (nm_xs X ((nI i) + (3 : Int32)).toNatClampNeg) (nm_xs X ((nI i) + (4 : Int32)).toNatClampNeg) (nm_xs X ((nI i) + (5 : Int32)).toNatClampNeg) q29.2).bind fun q35 => (if q29.1 = q35.1 then (La_law_l18 X K n) ((nI i) + (6 : Int32)) q35.2 else some ((0 : Int32), q35.2))))))))))))))))))))))))) := by
  intro hr h6 hL
  obtain ⟨T, U, E, h⟩ := hr
  obtain ⟨a, τ, τ', e1, e2, r⟩ := op_copy h (nm_xs X (nI i + (1 : Int32)).toNatClampNeg) (nm_xs X (nI i + (2 : Int32)).toNatClampNeg) (nm_xs X (nI i + (3 : Int32)).toNatClampNeg) (nm_xs X (nI i + (4 : Int32)).toNatClampNeg) (nm_xs X (nI i + (5 : Int32)).toNatClampNeg)
  exact ws_g (wt_g pl_1 h6 hL (by omega)) <| ws_g (wt_g pl_2 h6 hL (by omega)) <| ws_g (wt_g pl_3 h6 hL (by omega)) <| ws_g (wt_g pl_4 h6 hL (by omega)) <| ws_g (wt_g pl_5 h6 hL (by omega)) <| ws_b e1 <| ws_g (wt_g pl_1 h6 hL (by omega)) <| ws_g (wt_g pl_2 h6 hL (by omega)) <| ws_g (wt_g pl_3 h6 hL (by omega)) <| ws_g (wt_g pl_4 h6 hL (by omega)) <| ws_g (wt_g pl_5 h6 hL (by omega)) <| ws_b e2 <| ws_e r
theorem sq_element : LwT X K n i σ ((nm_g (nm_in ((nI i) + (1 : Int32)) (nm_L X)) ( (nm_g (nm_in ((nI i) + (2 : Int32)) (nm_L X)) ( ((Nm_element (nm_xs X ((nI i) + (1 : Int32)).toNatClampNeg) (nm_xs X ((nI i) + (2 : Int32)).toNatClampNeg) σ).bind fun q39 => (nm_g (nm_in ((nI i) + (1 : Int32)) (nm_L X)) ( (nm_g (nm_in ((nI i) + (2 : Int32)) (nm_L X)) ( ((Md_element (nm_xs X ((nI i) + (1 : Int32)).toNatClampNeg) (nm_xs X ((nI i) + (2 : Int32)).toNatClampNeg) q39.2).bind fun q42 => (if (lg_cmp q39.1 q42.1) = 0 then (La_law_l18 X K n) ((nI i) + (6 : Int32)) q42.2 else some ((0 : Int32), q42.2))))))))))))) := by
  intro hr h6 hL
  obtain ⟨T, U, E, h⟩ := hr
  obtain ⟨a, τ, τ', e1, e2, r⟩ := ok_q h (op_element h.2.2.1 (nm_xs X (nI i + (1 : Int32)).toNatClampNeg) (nm_xs X (nI i + (2 : Int32)).toNatClampNeg))
  exact ws_g (wt_g pl_1 h6 hL (by omega)) <| ws_g (wt_g pl_2 h6 hL (by omega)) <| ws_b e1 <| ws_g (wt_g pl_1 h6 hL (by omega)) <| ws_g (wt_g pl_2 h6 hL (by omega)) <| ws_b e2 <| ws_ej r
theorem sq_show : LwT X K n i σ ((nm_g (nm_in ((nI i) + (1 : Int32)) (nm_L X)) ( (nm_g (nm_in ((nI i) + (2 : Int32)) (nm_L X)) ( ((Nm_show (nm_xs X ((nI i) + (1 : Int32)).toNatClampNeg) (nm_xs X ((nI i) + (2 : Int32)).toNatClampNeg) σ).bind fun q46 => (nm_g (nm_in ((nI i) + (1 : Int32)) (nm_L X)) ( (nm_g (nm_in ((nI i) + (2 : Int32)) (nm_L X)) ( ((Md_show (nm_xs X ((nI i) + (1 : Int32)).toNatClampNeg) (nm_xs X ((nI i) + (2 : Int32)).toNatClampNeg) q46.2).bind fun q49 => (if q46.1 = q49.1 then (La_law_l18 X K n) ((nI i) + (6 : Int32)) q49.2 else some ((0 : Int32), q49.2))))))))))))) := by
  intro hr h6 hL
  obtain ⟨T, U, E, h⟩ := hr
  obtain ⟨a, τ, τ', e1, e2, r⟩ := op_show h (nm_xs X (nI i + (1 : Int32)).toNatClampNeg) (nm_xs X (nI i + (2 : Int32)).toNatClampNeg)
  exact ws_g (wt_g pl_1 h6 hL (by omega)) <| ws_g (wt_g pl_2 h6 hL (by omega)) <| ws_b e1 <| ws_g (wt_g pl_1 h6 hL (by omega)) <| ws_g (wt_g pl_2 h6 hL (by omega)) <| ws_b e2 <| ws_e r
theorem sq_holds : LwT X K n i σ ((nm_g (nm_in ((nI i) + (1 : Int32)) (nm_L X)) ( ((Nm_holds (nm_xs X ((nI i) + (1 : Int32)).toNatClampNeg) σ).bind fun q52 => (nm_g (nm_in ((nI i) + (1 : Int32)) (nm_L X)) ( ((Md_holds (nm_xs X ((nI i) + (1 : Int32)).toNatClampNeg) q52.2).bind fun q54 => (if q52.1 = q54.1 then (La_law_l18 X K n) ((nI i) + (6 : Int32)) q54.2 else some ((0 : Int32), q54.2))))))))) := by
  intro hr h6 hL
  obtain ⟨T, U, E, h⟩ := hr
  obtain ⟨a, τ, τ', e1, e2, r⟩ := ok_q h (op_holds h.2.2.1 (nm_xs X (nI i + (1 : Int32)).toNatClampNeg))
  exact ws_g (wt_g pl_1 h6 hL (by omega)) <| ws_b e1 <| ws_g (wt_g pl_1 h6 hL (by omega)) <| ws_b e2 <| ws_e r
theorem sq_says : LwT X K n i σ ((nm_g (nm_in ((nI i) + (1 : Int32)) (nm_L X)) ( (nm_g (nm_in ((nI i) + (2 : Int32)) (nm_L X)) ( ((Nm_says (nm_xs X ((nI i) + (1 : Int32)).toNatClampNeg) (nm_xs X ((nI i) + (2 : Int32)).toNatClampNeg) σ).bind fun q58 => (nm_g (nm_in ((nI i) + (1 : Int32)) (nm_L X)) ( (nm_g (nm_in ((nI i) + (2 : Int32)) (nm_L X)) ( ((Md_says (nm_xs X ((nI i) + (1 : Int32)).toNatClampNeg) (nm_xs X ((nI i) + (2 : Int32)).toNatClampNeg) q58.2).bind fun q61 => (if q58.1 = q61.1 then (La_law_l18 X K n) ((nI i) + (6 : Int32)) q61.2 else some ((0 : Int32), q61.2))))))))))))) := by
  intro hr h6 hL
  obtain ⟨T, U, E, h⟩ := hr
  obtain ⟨a, τ, τ', e1, e2, r⟩ := ok_q h (op_says h.2.2.1 (nm_xs X (nI i + (1 : Int32)).toNatClampNeg) (nm_xs X (nI i + (2 : Int32)).toNatClampNeg))
  exact ws_g (wt_g pl_1 h6 hL (by omega)) <| ws_g (wt_g pl_2 h6 hL (by omega)) <| ws_b e1 <| ws_g (wt_g pl_1 h6 hL (by omega)) <| ws_g (wt_g pl_2 h6 hL (by omega)) <| ws_b e2 <| ws_e r
theorem sq_maker : LwT X K n i σ ((nm_g (nm_in ((nI i) + (1 : Int32)) (nm_L X)) ( (nm_g (nm_in ((nI i) + (2 : Int32)) (nm_L X)) ( (nm_g (nm_in ((nI i) + (3 : Int32)) (nm_L X)) ( ((Nm_maker (nm_xs X ((nI i) + (1 : Int32)).toNatClampNeg) (nm_xs X ((nI i) + (2 : Int32)).toNatClampNeg) (nm_xs X ((nI i) + (3 : Int32)).toNatClampNeg) σ).bind fun q66 => (nm_g (nm_in ((nI i) + (1 : Int32)) (nm_L X)) ( (nm_g (nm_in ((nI i) + (2 : Int32)) (nm_L X)) ( (nm_g (nm_in ((nI i) + (3 : Int32)) (nm_L X)) ( ((Md_maker (nm_xs X ((nI i) + (1 : Int32)).toNatClampNeg) (nm_xs X ((nI i) + (2 : Int32)).toNatClampNeg) (nm_xs X ((nI i) + (3 : Int32)).toNatClampNeg) q66.2).bind fun q70 => (if q66.1 = q70.1 then (La_law_l18 X K n) ((nI i) + (6 : Int32)) q70.2 else some ((0 : Int32), q70.2))))))))))))))))) := by
  intro hr h6 hL
  obtain ⟨T, U, E, h⟩ := hr
  obtain ⟨a, τ, τ', e1, e2, r⟩ := ok_or h (op_maker h.2.2.1 (nm_xs X (nI i + (1 : Int32)).toNatClampNeg) (nm_xs X (nI i + (2 : Int32)).toNatClampNeg) (nm_xs X (nI i + (3 : Int32)).toNatClampNeg))
  exact ws_g (wt_g pl_1 h6 hL (by omega)) <| ws_g (wt_g pl_2 h6 hL (by omega)) <| ws_g (wt_g pl_3 h6 hL (by omega)) <| ws_b e1 <| ws_g (wt_g pl_1 h6 hL (by omega)) <| ws_g (wt_g pl_2 h6 hL (by omega)) <| ws_g (wt_g pl_3 h6 hL (by omega)) <| ws_b e2 <| ws_e r
theorem sq_parts : LwT X K n i σ ((nm_g (nm_in ((nI i) + (1 : Int32)) (nm_L X)) ( ((Nm_parts (nm_xs X ((nI i) + (1 : Int32)).toNatClampNeg) σ).bind fun q73 => (nm_g (nm_in ((nI i) + (1 : Int32)) (nm_L X)) ( ((Md_parts (nm_xs X ((nI i) + (1 : Int32)).toNatClampNeg) q73.2).bind fun q75 => (if q73.1 = q75.1 then (La_law_l18 X K n) ((nI i) + (6 : Int32)) q75.2 else some ((0 : Int32), q75.2))))))))) := by
  intro hr h6 hL
  obtain ⟨T, U, E, h⟩ := hr
  obtain ⟨a, τ, τ', e1, e2, r⟩ := ok_or h (op_parts h.2.2.1 (nm_xs X (nI i + (1 : Int32)).toNatClampNeg))
  exact ws_g (wt_g pl_1 h6 hL (by omega)) <| ws_b e1 <| ws_g (wt_g pl_1 h6 hL (by omega)) <| ws_b e2 <| ws_e r
theorem sq_knows : LwT X K n i σ ((nm_g (nm_in ((nI i) + (1 : Int32)) (nm_L X)) ( (nm_g (nm_in ((nI i) + (2 : Int32)) (nm_L X)) ( (nm_g (nm_in ((nI i) + (3 : Int32)) (nm_L X)) ( (if (nm_xs X ((nI i) + (3 : Int32)).toNatClampNeg) = 0 then La_law_j616 X (La_law_l18 X K n) (nI i) (nm_xs X ((nI i) + (1 : Int32)).toNatClampNeg) (nm_xs X ((nI i) + (2 : Int32)).toNatClampNeg) (0 : Int32) σ else La_law_j616 X (La_law_l18 X K n) (nI i) (nm_xs X ((nI i) + (1 : Int32)).toNatClampNeg) (nm_xs X ((nI i) + (2 : Int32)).toNatClampNeg) (1 : Int32) σ)))))))) := by
  intro hr h6 hL
  obtain ⟨T, U, E, h⟩ := hr
  have key : ∀ y : Int32, (((nm_xs X (nI i + (3 : Int32)).toNatClampNeg) = 0 → y = 0) ∧ (¬ (nm_xs X (nI i + (3 : Int32)).toNatClampNeg) = 0 → y = 1)) → LwS X K n i (La_law_j616 X (La_law_l18 X K n) (nI i) (nm_xs X (nI i + (1 : Int32)).toNatClampNeg) (nm_xs X (nI i + (2 : Int32)).toNatClampNeg) y σ) := by
    intro y hy
    obtain ⟨a, τ, τ', e1, e2, r⟩ := ok_or h (op_knows h.2.2.1 (nm_xs X (nI i + (1 : Int32)).toNatClampNeg) (nm_xs X (nI i + (2 : Int32)).toNatClampNeg) y)
    unfold La_law_j616
    refine ws_b e1 <| ws_g (wt_g pl_1 h6 hL (by omega)) <| ws_g (wt_g pl_2 h6 hL (by omega)) <| ws_g (wt_g pl_3 h6 hL (by omega)) <|  ?_
    by_cases z : (nm_xs X (nI i + (3 : Int32)).toNatClampNeg) = 0
    · refine ws_t z ?_
      have := hy.1 z
      subst this
      unfold La_law_j643
      exact ws_b e2 (ws_e r)
    · refine ws_f z ?_
      have := hy.2 z
      subst this
      unfold La_law_j643
      exact ws_b e2 (ws_e r)
  refine ws_g (wt_g pl_1 h6 hL (by omega)) <| ws_g (wt_g pl_2 h6 hL (by omega)) <| ws_g (wt_g pl_3 h6 hL (by omega)) <|  ?_
  by_cases z : (nm_xs X (nI i + (3 : Int32)).toNatClampNeg) = 0
  · exact ws_t z (key 0 ⟨fun _ => rfl, fun w => absurd z w⟩)
  · exact ws_f z (key 1 ⟨fun w => absurd w z, fun _ => rfl⟩)
theorem sq_kin : LwT X K n i σ ((nm_g (nm_in ((nI i) + (1 : Int32)) (nm_L X)) ( (nm_g (nm_in ((nI i) + (2 : Int32)) (nm_L X)) ( (nm_g (nm_in ((nI i) + (3 : Int32)) (nm_L X)) ( (if (nm_xs X ((nI i) + (3 : Int32)).toNatClampNeg) = 0 then La_law_j675 X (La_law_l18 X K n) (nI i) (nm_xs X ((nI i) + (1 : Int32)).toNatClampNeg) (nm_xs X ((nI i) + (2 : Int32)).toNatClampNeg) (0 : Int32) σ else La_law_j675 X (La_law_l18 X K n) (nI i) (nm_xs X ((nI i) + (1 : Int32)).toNatClampNeg) (nm_xs X ((nI i) + (2 : Int32)).toNatClampNeg) (1 : Int32) σ)))))))) := by
  intro hr h6 hL
  obtain ⟨T, U, E, h⟩ := hr
  have key : ∀ y : Int32, (((nm_xs X (nI i + (3 : Int32)).toNatClampNeg) = 0 → y = 0) ∧ (¬ (nm_xs X (nI i + (3 : Int32)).toNatClampNeg) = 0 → y = 1)) → LwS X K n i (La_law_j675 X (La_law_l18 X K n) (nI i) (nm_xs X (nI i + (1 : Int32)).toNatClampNeg) (nm_xs X (nI i + (2 : Int32)).toNatClampNeg) y σ) := by
    intro y hy
    obtain ⟨a, τ, τ', e1, e2, r⟩ := ok_or h (op_kin h.2.2.1 (nm_xs X (nI i + (1 : Int32)).toNatClampNeg) (nm_xs X (nI i + (2 : Int32)).toNatClampNeg) y)
    unfold La_law_j675
    refine ws_b e1 <| ws_g (wt_g pl_1 h6 hL (by omega)) <| ws_g (wt_g pl_2 h6 hL (by omega)) <| ws_g (wt_g pl_3 h6 hL (by omega)) <|  ?_
    by_cases z : (nm_xs X (nI i + (3 : Int32)).toNatClampNeg) = 0
    · refine ws_t z ?_
      have := hy.1 z
      subst this
      unfold La_law_j702
      exact ws_b e2 (ws_e r)
    · refine ws_f z ?_
      have := hy.2 z
      subst this
      unfold La_law_j702
      exact ws_b e2 (ws_e r)
  refine ws_g (wt_g pl_1 h6 hL (by omega)) <| ws_g (wt_g pl_2 h6 hL (by omega)) <| ws_g (wt_g pl_3 h6 hL (by omega)) <|  ?_
  by_cases z : (nm_xs X (nI i + (3 : Int32)).toNatClampNeg) = 0
  · exact ws_t z (key 0 ⟨fun _ => rfl, fun w => absurd z w⟩)
  · exact ws_f z (key 1 ⟨fun w => absurd w z, fun _ => rfl⟩)
theorem sq_ask : LwT X K n i σ ((nm_g (nm_in ((nI i) + (1 : Int32)) (nm_L X)) ( (nm_g (nm_in ((nI i) + (2 : Int32)) (nm_L X)) ( ((Nm_ask (nm_xs X ((nI i) + (1 : Int32)).toNatClampNeg) (nm_xs X ((nI i) + (2 : Int32)).toNatClampNeg) σ).bind fun q101 => (nm_g (nm_in ((nI i) + (1 : Int32)) (nm_L X)) ( (nm_g (nm_in ((nI i) + (2 : Int32)) (nm_L X)) ( ((Md_ask (nm_xs X ((nI i) + (1 : Int32)).toNatClampNeg) (nm_xs X ((nI i) + (2 : Int32)).toNatClampNeg) q101.2).bind fun q104 => (if q101.1 = q104.1 then (La_law_l18 X K n) ((nI i) + (6 : Int32)) q104.2 else some ((0 : Int32), q104.2))))))))))))) := by
  intro hr h6 hL
  obtain ⟨T, U, E, h⟩ := hr
  obtain ⟨a, τ, τ', e1, e2, r⟩ := ok_or h (op_ask h.2.2.1 (nm_xs X (nI i + (1 : Int32)).toNatClampNeg) (nm_xs X (nI i + (2 : Int32)).toNatClampNeg))
  exact ws_g (wt_g pl_1 h6 hL (by omega)) <| ws_g (wt_g pl_2 h6 hL (by omega)) <| ws_b e1 <| ws_g (wt_g pl_1 h6 hL (by omega)) <| ws_g (wt_g pl_2 h6 hL (by omega)) <| ws_b e2 <| ws_e r
theorem sq_makerOf : LwT X K n i σ ((nm_g (nm_in ((nI i) + (1 : Int32)) (nm_L X)) ( (nm_g (nm_in ((nI i) + (2 : Int32)) (nm_L X)) ( ((Nm_makerOf (nm_xs X ((nI i) + (1 : Int32)).toNatClampNeg) (nm_xs X ((nI i) + (2 : Int32)).toNatClampNeg) σ).bind fun q108 => (nm_g (nm_in ((nI i) + (1 : Int32)) (nm_L X)) ( (nm_g (nm_in ((nI i) + (2 : Int32)) (nm_L X)) ( ((Md_makerOf (nm_xs X ((nI i) + (1 : Int32)).toNatClampNeg) (nm_xs X ((nI i) + (2 : Int32)).toNatClampNeg) q108.2).bind fun q111 => (if q108.1 = q111.1 then (La_law_l18 X K n) ((nI i) + (6 : Int32)) q111.2 else some ((0 : Int32), q111.2))))))))))))) := by
  intro hr h6 hL
  obtain ⟨T, U, E, h⟩ := hr
  obtain ⟨a, τ, τ', e1, e2, r⟩ := ok_q h (op_makerOf h.2.2.1 (nm_xs X (nI i + (1 : Int32)).toNatClampNeg) (nm_xs X (nI i + (2 : Int32)).toNatClampNeg))
  exact ws_g (wt_g pl_1 h6 hL (by omega)) <| ws_g (wt_g pl_2 h6 hL (by omega)) <| ws_b e1 <| ws_g (wt_g pl_1 h6 hL (by omega)) <| ws_g (wt_g pl_2 h6 hL (by omega)) <| ws_b e2 <| ws_e r
theorem sq_island : LwT X K n i σ ((nm_g (nm_in ((nI i) + (1 : Int32)) (nm_L X)) ( ((Nm_island (nm_xs X ((nI i) + (1 : Int32)).toNatClampNeg) σ).bind fun q114 => (nm_g (nm_in ((nI i) + (1 : Int32)) (nm_L X)) ( ((Md_island (nm_xs X ((nI i) + (1 : Int32)).toNatClampNeg) q114.2).bind fun q116 => (if q114.1 = q116.1 then (La_law_l18 X K n) ((nI i) + (6 : Int32)) q116.2 else some ((0 : Int32), q116.2))))))))) := by
  intro hr h6 hL
  obtain ⟨T, U, E, h⟩ := hr
  obtain ⟨a, τ, τ', e1, e2, r⟩ := op_island h (nm_xs X (nI i + (1 : Int32)).toNatClampNeg)
  exact ws_g (wt_g pl_1 h6 hL (by omega)) <| ws_b e1 <| ws_g (wt_g pl_1 h6 hL (by omega)) <| ws_b e2 <| ws_e r
theorem sq_fault : LwT X K n i σ (((Nm_fault σ).bind fun q118 => ((Md_fault q118.2).bind fun q119 => (if q118.1 = q119.1 then (La_law_l18 X K n) ((nI i) + (6 : Int32)) q119.2 else some ((0 : Int32), q119.2))))) := by
  intro hr h6 hL
  obtain ⟨T, U, E, h⟩ := hr
  obtain ⟨a, τ, τ', e1, e2, r⟩ := op_fault h 
  exact ws_b e1 <| ws_b e2 <| ws_e r
theorem sq_abroad : LwT X K n i σ ((nm_g (nm_in ((nI i) + (1 : Int32)) (nm_L X)) ( ((Nm_abroad (nm_xs X ((nI i) + (1 : Int32)).toNatClampNeg) σ).bind fun q122 => (nm_g (nm_in ((nI i) + (1 : Int32)) (nm_L X)) ( ((Md_abroad (nm_xs X ((nI i) + (1 : Int32)).toNatClampNeg) q122.2).bind fun q124 => (if q122.1 = q124.1 then (La_law_l18 X K n) ((nI i) + (6 : Int32)) q124.2 else some ((0 : Int32), q124.2))))))))) := by
  intro hr h6 hL
  obtain ⟨T, U, E, h⟩ := hr
  obtain ⟨a, τ, τ', e1, e2, r⟩ := ok_q h (op_abroad h.2.2.1 (nm_xs X (nI i + (1 : Int32)).toNatClampNeg))
  exact ws_g (wt_g pl_1 h6 hL (by omega)) <| ws_b e1 <| ws_g (wt_g pl_1 h6 hL (by omega)) <| ws_b e2 <| ws_e r
theorem sq_fewest : LwT X K n i σ (((Nm_fewest σ).bind fun q126 => ((Md_fewest q126.2).bind fun q127 => (if q126.1 = q127.1 then (La_law_l18 X K n) ((nI i) + (6 : Int32)) q127.2 else some ((0 : Int32), q127.2))))) := by
  intro hr h6 hL
  obtain ⟨T, U, E, h⟩ := hr
  obtain ⟨a, τ, τ', e1, e2, r⟩ := ok_h h (op_fewest h.2.2.1 )
  exact ws_b e1 <| ws_b e2 <| ws_e r
theorem sq_cheapest : LwT X K n i σ ((nm_g (nm_in ((nI i) + (1 : Int32)) (nm_L X)) ( ((Nm_cheapest (nm_xs X ((nI i) + (1 : Int32)).toNatClampNeg) σ).bind fun q130 => (nm_g (nm_in ((nI i) + (1 : Int32)) (nm_L X)) ( ((Md_cheapest (nm_xs X ((nI i) + (1 : Int32)).toNatClampNeg) q130.2).bind fun q132 => (if q130.1 = q132.1 then (La_law_l18 X K n) ((nI i) + (6 : Int32)) q132.2 else some ((0 : Int32), q132.2))))))))) := by
  intro hr h6 hL
  obtain ⟨T, U, E, h⟩ := hr
  obtain ⟨a, τ, τ', e1, e2, r⟩ := ok_h h (op_cheapest h.2.2.1 (nm_xs X (nI i + (1 : Int32)).toNatClampNeg))
  exact ws_g (wt_g pl_1 h6 hL (by omega)) <| ws_b e1 <| ws_g (wt_g pl_1 h6 hL (by omega)) <| ws_b e2 <| ws_e r
theorem sq_alone : LwT X K n i σ ((nm_g (nm_in ((nI i) + (1 : Int32)) (nm_L X)) ( ((Nm_alone (nm_xs X ((nI i) + (1 : Int32)).toNatClampNeg) σ).bind fun q135 => (nm_g (nm_in ((nI i) + (1 : Int32)) (nm_L X)) ( ((Md_alone (nm_xs X ((nI i) + (1 : Int32)).toNatClampNeg) q135.2).bind fun q137 => (if q135.1 = q137.1 then (La_law_l18 X K n) ((nI i) + (6 : Int32)) q137.2 else some ((0 : Int32), q137.2))))))))) := by
  intro hr h6 hL
  obtain ⟨T, U, E, h⟩ := hr
  obtain ⟨a, τ, τ', e1, e2, r⟩ := ok_q h (op_alone h.2.2.1 (nm_xs X (nI i + (1 : Int32)).toNatClampNeg))
  exact ws_g (wt_g pl_1 h6 hL (by omega)) <| ws_b e1 <| ws_g (wt_g pl_1 h6 hL (by omega)) <| ws_b e2 <| ws_e r
theorem sq_without : LwT X K n i σ ((nm_g (nm_in ((nI i) + (1 : Int32)) (nm_L X)) ( ((Nm_without (nm_xs X ((nI i) + (1 : Int32)).toNatClampNeg) σ).bind fun q140 => (nm_g (nm_in ((nI i) + (1 : Int32)) (nm_L X)) ( ((Md_without (nm_xs X ((nI i) + (1 : Int32)).toNatClampNeg) q140.2).bind fun q142 => (if q140.1 = q142.1 then (La_law_l18 X K n) ((nI i) + (6 : Int32)) q142.2 else some ((0 : Int32), q142.2))))))))) := by
  intro hr h6 hL
  obtain ⟨T, U, E, h⟩ := hr
  obtain ⟨a, τ, τ', e1, e2, r⟩ := ok_q h (op_without h.2.2.1 (nm_xs X (nI i + (1 : Int32)).toNatClampNeg))
  exact ws_g (wt_g pl_1 h6 hL (by omega)) <| ws_b e1 <| ws_g (wt_g pl_1 h6 hL (by omega)) <| ws_b e2 <| ws_e r
theorem sq_sold : LwT X K n i σ ((nm_g (nm_in ((nI i) + (1 : Int32)) (nm_L X)) ( ((Nm_sold (nm_xs X ((nI i) + (1 : Int32)).toNatClampNeg) σ).bind fun q145 => (nm_g (nm_in ((nI i) + (1 : Int32)) (nm_L X)) ( ((Md_sold (nm_xs X ((nI i) + (1 : Int32)).toNatClampNeg) q145.2).bind fun q147 => (if q145.1 = q147.1 then (La_law_l18 X K n) ((nI i) + (6 : Int32)) q147.2 else some ((0 : Int32), q147.2))))))))) := by
  intro hr h6 hL
  obtain ⟨T, U, E, h⟩ := hr
  obtain ⟨a, τ, τ', e1, e2, r⟩ := ok_h h (op_sold h.2.2.1 (nm_xs X (nI i + (1 : Int32)).toNatClampNeg))
  exact ws_g (wt_g pl_1 h6 hL (by omega)) <| ws_b e1 <| ws_g (wt_g pl_1 h6 hL (by omega)) <| ws_b e2 <| ws_e r
theorem sq_stands : LwT X K n i σ (((Nm_stands σ).bind fun q149 => ((Md_stands0 q149.2).bind fun q150 => (if q149.1 = q150.1 then (La_law_l18 X K n) ((nI i) + (6 : Int32)) q150.2 else some ((0 : Int32), q150.2))))) := by
  intro hr h6 hL
  obtain ⟨T, U, E, h⟩ := hr
  obtain ⟨a, τ, τ', e1, e2, r⟩ := ok_q h (op_stands h.2.2.1 )
  exact ws_b e1 <| ws_b e2 <| ws_e r
theorem sq_lessons : LwT X K n i σ ((nm_g (nm_in ((nI i) + (1 : Int32)) (nm_L X)) ( ((Nm_lessons (nm_xs X ((nI i) + (1 : Int32)).toNatClampNeg) σ).bind fun q153 => (nm_g (nm_in ((nI i) + (1 : Int32)) (nm_L X)) ( ((Md_lessons (nm_xs X ((nI i) + (1 : Int32)).toNatClampNeg) q153.2).bind fun q155 => (if q153.1 = q155.1 then (La_law_l18 X K n) ((nI i) + (6 : Int32)) q155.2 else some ((0 : Int32), q155.2))))))))) := by
  intro hr h6 hL
  obtain ⟨T, U, E, h⟩ := hr
  obtain ⟨a, τ, τ', e1, e2, r⟩ := ok_q h (op_lessons h.2.2.1 (nm_xs X (nI i + (1 : Int32)).toNatClampNeg))
  exact ws_g (wt_g pl_1 h6 hL (by omega)) <| ws_b e1 <| ws_g (wt_g pl_1 h6 hL (by omega)) <| ws_b e2 <| ws_e r
theorem sq_offer : LwT X K n i σ ((nm_g (nm_in ((nI i) + (1 : Int32)) (nm_L X)) ( ((Nm_offer (nm_xs X ((nI i) + (1 : Int32)).toNatClampNeg) σ).bind fun q158 => (nm_g (nm_in ((nI i) + (1 : Int32)) (nm_L X)) ( ((Md_offer (nm_xs X ((nI i) + (1 : Int32)).toNatClampNeg) q158.2).bind fun q160 => (if q158.1 = q160.1 then (La_law_l18 X K n) ((nI i) + (6 : Int32)) q160.2 else some ((0 : Int32), q160.2))))))))) := by
  intro hr h6 hL
  obtain ⟨T, U, E, h⟩ := hr
  obtain ⟨a, τ, τ', e1, e2, r⟩ := ok_q h (op_offer h.2.2.1 (nm_xs X (nI i + (1 : Int32)).toNatClampNeg))
  exact ws_g (wt_g pl_1 h6 hL (by omega)) <| ws_b e1 <| ws_g (wt_g pl_1 h6 hL (by omega)) <| ws_b e2 <| ws_e r
theorem sq_spend : LwT X K n i σ (((Nm_spend σ).bind fun q162 => ((Md_spend q162.2).bind fun q163 => (if q162.1 = q163.1 then (La_law_l18 X K n) ((nI i) + (6 : Int32)) q163.2 else some ((0 : Int32), q163.2))))) := by
  intro hr h6 hL
  obtain ⟨T, U, E, h⟩ := hr
  obtain ⟨a, τ, τ', e1, e2, r⟩ := ok_h h (op_spend h.2.2.1 )
  exact ws_b e1 <| ws_b e2 <| ws_e r
theorem sq_council : LwT X K n i σ ((nm_g (nm_in ((nI i) + (1 : Int32)) (nm_L X)) ( (nm_g (nm_in ((nI i) + (2 : Int32)) (nm_L X)) ( ((Nm_council (nm_xs X ((nI i) + (1 : Int32)).toNatClampNeg) (nm_xs X ((nI i) + (2 : Int32)).toNatClampNeg) σ).bind fun q167 => (nm_g (nm_in ((nI i) + (1 : Int32)) (nm_L X)) ( (nm_g (nm_in ((nI i) + (2 : Int32)) (nm_L X)) ( ((Md_council (nm_xs X ((nI i) + (1 : Int32)).toNatClampNeg) (nm_xs X ((nI i) + (2 : Int32)).toNatClampNeg) q167.2).bind fun q170 => (if q167.1 = q170.1 then (La_law_l18 X K n) ((nI i) + (6 : Int32)) q170.2 else some ((0 : Int32), q170.2))))))))))))) := by
  intro hr h6 hL
  obtain ⟨T, U, E, h⟩ := hr
  obtain ⟨a, τ, τ', e1, e2, r⟩ := ok_h h (op_council h.2.2.1 (nm_xs X (nI i + (1 : Int32)).toNatClampNeg) (nm_xs X (nI i + (2 : Int32)).toNatClampNeg))
  exact ws_g (wt_g pl_1 h6 hL (by omega)) <| ws_g (wt_g pl_2 h6 hL (by omega)) <| ws_b e1 <| ws_g (wt_g pl_1 h6 hL (by omega)) <| ws_g (wt_g pl_2 h6 hL (by omega)) <| ws_b e2 <| ws_e r
theorem sq_letter : LwT X K n i σ ((nm_g (nm_in ((nI i) + (1 : Int32)) (nm_L X)) ( (nm_g (nm_in ((nI i) + (2 : Int32)) (nm_L X)) ( (nm_g (nm_in ((nI i) + (3 : Int32)) (nm_L X)) ( ((Nm_letter (nm_xs X ((nI i) + (1 : Int32)).toNatClampNeg) (nm_xs X ((nI i) + (2 : Int32)).toNatClampNeg) (nm_xs X ((nI i) + (3 : Int32)).toNatClampNeg) σ).bind fun q175 => (nm_g (nm_in ((nI i) + (1 : Int32)) (nm_L X)) ( (nm_g (nm_in ((nI i) + (2 : Int32)) (nm_L X)) ( (nm_g (nm_in ((nI i) + (3 : Int32)) (nm_L X)) ( ((Md_letter (nm_xs X ((nI i) + (1 : Int32)).toNatClampNeg) (nm_xs X ((nI i) + (2 : Int32)).toNatClampNeg) (nm_xs X ((nI i) + (3 : Int32)).toNatClampNeg) q175.2).bind fun q179 => (if q175.1 = q179.1 then (La_law_l18 X K n) ((nI i) + (6 : Int32)) q179.2 else some ((0 : Int32), q179.2))))))))))))))))) := by
  intro hr h6 hL
  obtain ⟨T, U, E, h⟩ := hr
  obtain ⟨a, τ, τ', e1, e2, r⟩ := ok_q h (op_letter h.2.2.1 (nm_xs X (nI i + (1 : Int32)).toNatClampNeg) (nm_xs X (nI i + (2 : Int32)).toNatClampNeg) (nm_xs X (nI i + (3 : Int32)).toNatClampNeg))
  exact ws_g (wt_g pl_1 h6 hL (by omega)) <| ws_g (wt_g pl_2 h6 hL (by omega)) <| ws_g (wt_g pl_3 h6 hL (by omega)) <| ws_b e1 <| ws_g (wt_g pl_1 h6 hL (by omega)) <| ws_g (wt_g pl_2 h6 hL (by omega)) <| ws_g (wt_g pl_3 h6 hL (by omega)) <| ws_b e2 <| ws_e r
theorem sq_keys : LwT X K n i σ ((nm_g (nm_in ((nI i) + (1 : Int32)) (nm_L X)) ( (nm_g (nm_in ((nI i) + (2 : Int32)) (nm_L X)) ( (nm_g (nm_in ((nI i) + (3 : Int32)) (nm_L X)) ( ((Nm_keys (nm_xs X ((nI i) + (1 : Int32)).toNatClampNeg) (nm_xs X ((nI i) + (2 : Int32)).toNatClampNeg) (nm_xs X ((nI i) + (3 : Int32)).toNatClampNeg) σ).bind fun q184 => (nm_g (nm_in ((nI i) + (1 : Int32)) (nm_L X)) ( (nm_g (nm_in ((nI i) + (2 : Int32)) (nm_L X)) ( (nm_g (nm_in ((nI i) + (3 : Int32)) (nm_L X)) ( ((Md_keys (nm_xs X ((nI i) + (1 : Int32)).toNatClampNeg) (nm_xs X ((nI i) + (2 : Int32)).toNatClampNeg) (nm_xs X ((nI i) + (3 : Int32)).toNatClampNeg) q184.2).bind fun q188 => (if q184.1 = q188.1 then (La_law_l18 X K n) ((nI i) + (6 : Int32)) q188.2 else some ((0 : Int32), q188.2))))))))))))))))) := by
  intro hr h6 hL
  obtain ⟨T, U, E, h⟩ := hr
  obtain ⟨a, τ, τ', e1, e2, r⟩ := ok_q h (op_keys h.2.2.1 (nm_xs X (nI i + (1 : Int32)).toNatClampNeg) (nm_xs X (nI i + (2 : Int32)).toNatClampNeg) (nm_xs X (nI i + (3 : Int32)).toNatClampNeg))
  exact ws_g (wt_g pl_1 h6 hL (by omega)) <| ws_g (wt_g pl_2 h6 hL (by omega)) <| ws_g (wt_g pl_3 h6 hL (by omega)) <| ws_b e1 <| ws_g (wt_g pl_1 h6 hL (by omega)) <| ws_g (wt_g pl_2 h6 hL (by omega)) <| ws_g (wt_g pl_3 h6 hL (by omega)) <| ws_b e2 <| ws_e r
theorem sq_tries : LwT X K n i σ ((nm_g (nm_in ((nI i) + (1 : Int32)) (nm_L X)) ( (nm_g (nm_in ((nI i) + (2 : Int32)) (nm_L X)) ( ((Nm_tries (nm_xs X ((nI i) + (1 : Int32)).toNatClampNeg) (nm_xs X ((nI i) + (2 : Int32)).toNatClampNeg) σ).bind fun q192 => (nm_g (nm_in ((nI i) + (1 : Int32)) (nm_L X)) ( (nm_g (nm_in ((nI i) + (2 : Int32)) (nm_L X)) ( ((Md_tries (nm_xs X ((nI i) + (1 : Int32)).toNatClampNeg) (nm_xs X ((nI i) + (2 : Int32)).toNatClampNeg) q192.2).bind fun q195 => (if q192.1 = q195.1 then (La_law_l18 X K n) ((nI i) + (6 : Int32)) q195.2 else some ((0 : Int32), q195.2))))))))))))) := by
  intro hr h6 hL
  obtain ⟨T, U, E, h⟩ := hr
  obtain ⟨a, τ, τ', e1, e2, r⟩ := ok_q h (op_tries h.2.2.1 (nm_xs X (nI i + (1 : Int32)).toNatClampNeg) (nm_xs X (nI i + (2 : Int32)).toNatClampNeg))
  exact ws_g (wt_g pl_1 h6 hL (by omega)) <| ws_g (wt_g pl_2 h6 hL (by omega)) <| ws_b e1 <| ws_g (wt_g pl_1 h6 hL (by omega)) <| ws_g (wt_g pl_2 h6 hL (by omega)) <| ws_b e2 <| ws_e r
theorem sq_who : LwT X K n i σ ((nm_g (nm_in ((nI i) + (1 : Int32)) (nm_L X)) ( (nm_g (nm_in ((nI i) + (2 : Int32)) (nm_L X)) ( (nm_g (nm_in ((nI i) + (3 : Int32)) (nm_L X)) ( ((Nm_who (nm_xs X ((nI i) + (1 : Int32)).toNatClampNeg) (nm_xs X ((nI i) + (2 : Int32)).toNatClampNeg) (nm_xs X ((nI i) + (3 : Int32)).toNatClampNeg) σ).bind fun q200 => (nm_g (nm_in ((nI i) + (1 : Int32)) (nm_L X)) ( (nm_g (nm_in ((nI i) + (2 : Int32)) (nm_L X)) ( (nm_g (nm_in ((nI i) + (3 : Int32)) (nm_L X)) ( ((Md_who (nm_xs X ((nI i) + (1 : Int32)).toNatClampNeg) (nm_xs X ((nI i) + (2 : Int32)).toNatClampNeg) (nm_xs X ((nI i) + (3 : Int32)).toNatClampNeg) q200.2).bind fun q204 => (if q200.1 = q204.1 then (La_law_l18 X K n) ((nI i) + (6 : Int32)) q204.2 else some ((0 : Int32), q204.2))))))))))))))))) := by
  intro hr h6 hL
  obtain ⟨T, U, E, h⟩ := hr
  obtain ⟨a, τ, τ', e1, e2, r⟩ := ok_q h (op_who h.2.2.1 (nm_xs X (nI i + (1 : Int32)).toNatClampNeg) (nm_xs X (nI i + (2 : Int32)).toNatClampNeg) (nm_xs X (nI i + (3 : Int32)).toNatClampNeg))
  exact ws_g (wt_g pl_1 h6 hL (by omega)) <| ws_g (wt_g pl_2 h6 hL (by omega)) <| ws_g (wt_g pl_3 h6 hL (by omega)) <| ws_b e1 <| ws_g (wt_g pl_1 h6 hL (by omega)) <| ws_g (wt_g pl_2 h6 hL (by omega)) <| ws_g (wt_g pl_3 h6 hL (by omega)) <| ws_b e2 <| ws_e r
theorem sq_judge : LwT X K n i σ ((nm_g (nm_in ((nI i) + (1 : Int32)) (nm_L X)) ( (nm_g (nm_in ((nI i) + (2 : Int32)) (nm_L X)) ( ((Nm_judge (nm_xs X ((nI i) + (1 : Int32)).toNatClampNeg) (nm_xs X ((nI i) + (2 : Int32)).toNatClampNeg) σ).bind fun q208 => (nm_g (nm_in ((nI i) + (1 : Int32)) (nm_L X)) ( (nm_g (nm_in ((nI i) + (2 : Int32)) (nm_L X)) ( ((Md_judge (nm_xs X ((nI i) + (1 : Int32)).toNatClampNeg) (nm_xs X ((nI i) + (2 : Int32)).toNatClampNeg) q208.2).bind fun q211 => (if q208.1 = q211.1 then (La_law_l18 X K n) ((nI i) + (6 : Int32)) q211.2 else some ((0 : Int32), q211.2))))))))))))) := by
  intro hr h6 hL
  obtain ⟨T, U, E, h⟩ := hr
  obtain ⟨a, τ, τ', e1, e2, r⟩ := ok_g h (op_judge h.2.2.1 (nm_xs X (nI i + (1 : Int32)).toNatClampNeg) (nm_xs X (nI i + (2 : Int32)).toNatClampNeg))
  exact ws_g (wt_g pl_1 h6 hL (by omega)) <| ws_g (wt_g pl_2 h6 hL (by omega)) <| ws_b e1 <| ws_g (wt_g pl_1 h6 hL (by omega)) <| ws_g (wt_g pl_2 h6 hL (by omega)) <| ws_b e2 <| ws_e r
theorem sq_behind : LwT X K n i σ ((nm_g (nm_in ((nI i) + (1 : Int32)) (nm_L X)) ( (nm_g (nm_in ((nI i) + (2 : Int32)) (nm_L X)) ( (nm_g (nm_in ((nI i) + (3 : Int32)) (nm_L X)) ( ((Nm_behind (nm_xs X ((nI i) + (1 : Int32)).toNatClampNeg) (nm_xs X ((nI i) + (2 : Int32)).toNatClampNeg) (nm_xs X ((nI i) + (3 : Int32)).toNatClampNeg) σ).bind fun q216 => (nm_g (nm_in ((nI i) + (1 : Int32)) (nm_L X)) ( (nm_g (nm_in ((nI i) + (2 : Int32)) (nm_L X)) ( (nm_g (nm_in ((nI i) + (3 : Int32)) (nm_L X)) ( ((Md_behind (nm_xs X ((nI i) + (1 : Int32)).toNatClampNeg) (nm_xs X ((nI i) + (2 : Int32)).toNatClampNeg) (nm_xs X ((nI i) + (3 : Int32)).toNatClampNeg) q216.2).bind fun q220 => (if q216.1 = q220.1 then (La_law_l18 X K n) ((nI i) + (6 : Int32)) q220.2 else some ((0 : Int32), q220.2))))))))))))))))) := by
  intro hr h6 hL
  obtain ⟨T, U, E, h⟩ := hr
  obtain ⟨a, τ, τ', e1, e2, r⟩ := ok_g h (op_behind h.2.2.1 (nm_xs X (nI i + (1 : Int32)).toNatClampNeg) (nm_xs X (nI i + (2 : Int32)).toNatClampNeg) (nm_xs X (nI i + (3 : Int32)).toNatClampNeg))
  exact ws_g (wt_g pl_1 h6 hL (by omega)) <| ws_g (wt_g pl_2 h6 hL (by omega)) <| ws_g (wt_g pl_3 h6 hL (by omega)) <| ws_b e1 <| ws_g (wt_g pl_1 h6 hL (by omega)) <| ws_g (wt_g pl_2 h6 hL (by omega)) <| ws_g (wt_g pl_3 h6 hL (by omega)) <| ws_b e2 <| ws_e r
theorem sq_done : LwT X K n i σ ((nm_g (nm_in ((nI i) + (1 : Int32)) (nm_L X)) ( (nm_g (nm_in ((nI i) + (2 : Int32)) (nm_L X)) ( ((Nm_done (nm_xs X ((nI i) + (1 : Int32)).toNatClampNeg) (nm_xs X ((nI i) + (2 : Int32)).toNatClampNeg) σ).bind fun q224 => (nm_g (nm_in ((nI i) + (1 : Int32)) (nm_L X)) ( (nm_g (nm_in ((nI i) + (2 : Int32)) (nm_L X)) ( ((Md_done (nm_xs X ((nI i) + (1 : Int32)).toNatClampNeg) (nm_xs X ((nI i) + (2 : Int32)).toNatClampNeg) q224.2).bind fun q227 => (if q224.1 = q227.1 then (La_law_l18 X K n) ((nI i) + (6 : Int32)) q227.2 else some ((0 : Int32), q227.2))))))))))))) := by
  intro hr h6 hL
  obtain ⟨T, U, E, h⟩ := hr
  obtain ⟨a, τ, τ', e1, e2, r⟩ := ok_g h (op_done h.2.2.1 (nm_xs X (nI i + (1 : Int32)).toNatClampNeg) (nm_xs X (nI i + (2 : Int32)).toNatClampNeg))
  exact ws_g (wt_g pl_1 h6 hL (by omega)) <| ws_g (wt_g pl_2 h6 hL (by omega)) <| ws_b e1 <| ws_g (wt_g pl_1 h6 hL (by omega)) <| ws_g (wt_g pl_2 h6 hL (by omega)) <| ws_b e2 <| ws_e r
theorem sq_bid : LwT X K n i σ ((nm_g (nm_in ((nI i) + (1 : Int32)) (nm_L X)) ( (nm_g (nm_in ((nI i) + (2 : Int32)) (nm_L X)) ( ((Nm_bid (nm_xs X ((nI i) + (1 : Int32)).toNatClampNeg) (nm_xs X ((nI i) + (2 : Int32)).toNatClampNeg) σ).bind fun q231 => (nm_g (nm_in ((nI i) + (1 : Int32)) (nm_L X)) ( (nm_g (nm_in ((nI i) + (2 : Int32)) (nm_L X)) ( ((Md_bid (nm_xs X ((nI i) + (1 : Int32)).toNatClampNeg) (nm_xs X ((nI i) + (2 : Int32)).toNatClampNeg) q231.2).bind fun q234 => (if q231.1 = q234.1 then (La_law_l18 X K n) ((nI i) + (6 : Int32)) q234.2 else some ((0 : Int32), q234.2))))))))))))) := by
  intro hr h6 hL
  obtain ⟨T, U, E, h⟩ := hr
  obtain ⟨a, τ, τ', e1, e2, r⟩ := ok_or h (op_bid h.2.2.1 (nm_xs X (nI i + (1 : Int32)).toNatClampNeg) (nm_xs X (nI i + (2 : Int32)).toNatClampNeg))
  exact ws_g (wt_g pl_1 h6 hL (by omega)) <| ws_g (wt_g pl_2 h6 hL (by omega)) <| ws_b e1 <| ws_g (wt_g pl_1 h6 hL (by omega)) <| ws_g (wt_g pl_2 h6 hL (by omega)) <| ws_b e2 <| ws_e r
theorem sq_deed : LwT X K n i σ ((nm_g (nm_in ((nI i) + (1 : Int32)) (nm_L X)) ( (nm_g (nm_in ((nI i) + (2 : Int32)) (nm_L X)) ( ((Nm_deed (nm_xs X ((nI i) + (1 : Int32)).toNatClampNeg) (nm_xs X ((nI i) + (2 : Int32)).toNatClampNeg) σ).bind fun q238 => (nm_g (nm_in ((nI i) + (1 : Int32)) (nm_L X)) ( (nm_g (nm_in ((nI i) + (2 : Int32)) (nm_L X)) ( ((Md_deed (nm_xs X ((nI i) + (1 : Int32)).toNatClampNeg) (nm_xs X ((nI i) + (2 : Int32)).toNatClampNeg) q238.2).bind fun q241 => (if q238.1 = q241.1 then (La_law_l18 X K n) ((nI i) + (6 : Int32)) q241.2 else some ((0 : Int32), q241.2))))))))))))) := by
  intro hr h6 hL
  obtain ⟨T, U, E, h⟩ := hr
  obtain ⟨a, τ, τ', e1, e2, r⟩ := ok_or h (op_deed h.2.2.1 (nm_xs X (nI i + (1 : Int32)).toNatClampNeg) (nm_xs X (nI i + (2 : Int32)).toNatClampNeg))
  exact ws_g (wt_g pl_1 h6 hL (by omega)) <| ws_g (wt_g pl_2 h6 hL (by omega)) <| ws_b e1 <| ws_g (wt_g pl_1 h6 hL (by omega)) <| ws_g (wt_g pl_2 h6 hL (by omega)) <| ws_b e2 <| ws_e r
theorem sq_write : LwT X K n i σ (((Nm_write σ).bind fun q243 => ((Md_write q243.2).bind fun q244 => (if q243.1 = q244.1 then (La_law_l18 X K n) ((nI i) + (6 : Int32)) q244.2 else some ((0 : Int32), q244.2))))) := by
  intro hr h6 hL
  obtain ⟨T, U, E, h⟩ := hr
  obtain ⟨a, τ, τ', e1, e2, r⟩ := ok_m h (op_write h.2.2.1 )
  exact ws_b e1 <| ws_b e2 <| ws_e r
theorem sq_month : LwT X K n i σ (((Nm_month σ).bind fun q246 => ((Md_month q246.2).bind fun q247 => (if q246.1 = q247.1 then (La_law_l18 X K n) ((nI i) + (6 : Int32)) q247.2 else some ((0 : Int32), q247.2))))) := by
  intro hr h6 hL
  obtain ⟨T, U, E, h⟩ := hr
  obtain ⟨a, τ, τ', e1, e2, r⟩ := ok_m h (op_month h.2.2.1 )
  exact ws_b e1 <| ws_b e2 <| ws_e r
theorem sq_years : LwT X K n i σ ((nm_g (nm_in ((nI i) + (1 : Int32)) (nm_L X)) ( ((Nm_years (nm_xs X ((nI i) + (1 : Int32)).toNatClampNeg) σ).bind fun q250 => (nm_g (nm_in ((nI i) + (1 : Int32)) (nm_L X)) ( ((Md_years (nm_xs X ((nI i) + (1 : Int32)).toNatClampNeg) q250.2).bind fun q252 => (if q250.1 = q252.1 then (La_law_l18 X K n) ((nI i) + (6 : Int32)) q252.2 else some ((0 : Int32), q252.2))))))))) := by
  intro hr h6 hL
  obtain ⟨T, U, E, h⟩ := hr
  obtain ⟨a, τ, τ', e1, e2, r⟩ := ok_or h (op_years h.2.2.1 (nm_xs X (nI i + (1 : Int32)).toNatClampNeg))
  exact ws_g (wt_g pl_1 h6 hL (by omega)) <| ws_b e1 <| ws_g (wt_g pl_1 h6 hL (by omega)) <| ws_b e2 <| ws_e r
theorem sq_seed : LwT X K n i σ ((nm_g (nm_in ((nI i) + (1 : Int32)) (nm_L X)) ( ((Nm_seed (nm_xs X ((nI i) + (1 : Int32)).toNatClampNeg) σ).bind fun q255 => (nm_g (nm_in ((nI i) + (1 : Int32)) (nm_L X)) ( ((Md_seed (nm_xs X ((nI i) + (1 : Int32)).toNatClampNeg) q255.2).bind fun q257 => (if q255.1 = q257.1 then (La_law_l18 X K n) ((nI i) + (6 : Int32)) q257.2 else some ((0 : Int32), q257.2))))))))) := by
  intro hr h6 hL
  obtain ⟨T, U, E, h⟩ := hr
  obtain ⟨a, τ, τ', e1, e2, r⟩ := ok_m h (op_seed h.2.2.1 (nm_xs X (nI i + (1 : Int32)).toNatClampNeg))
  exact ws_g (wt_g pl_1 h6 hL (by omega)) <| ws_b e1 <| ws_g (wt_g pl_1 h6 hL (by omega)) <| ws_b e2 <| ws_e r
theorem sq_act : LwT X K n i σ ((nm_g (nm_in ((nI i) + (1 : Int32)) (nm_L X)) ( (nm_g (nm_in ((nI i) + (2 : Int32)) (nm_L X)) ( (nm_g (nm_in ((nI i) + (3 : Int32)) (nm_L X)) ( ((Nm_act (nm_xs X ((nI i) + (1 : Int32)).toNatClampNeg) (nm_xs X ((nI i) + (2 : Int32)).toNatClampNeg) (nm_xs X ((nI i) + (3 : Int32)).toNatClampNeg) σ).bind fun q262 => (nm_g (nm_in ((nI i) + (1 : Int32)) (nm_L X)) ( (nm_g (nm_in ((nI i) + (2 : Int32)) (nm_L X)) ( (nm_g (nm_in ((nI i) + (3 : Int32)) (nm_L X)) ( ((Md_act (nm_xs X ((nI i) + (1 : Int32)).toNatClampNeg) (nm_xs X ((nI i) + (2 : Int32)).toNatClampNeg) (nm_xs X ((nI i) + (3 : Int32)).toNatClampNeg) q262.2).bind fun q266 => (if q262.1 = q266.1 then (La_law_l18 X K n) ((nI i) + (6 : Int32)) q266.2 else some ((0 : Int32), q266.2))))))))))))))))) := by
  intro hr h6 hL
  obtain ⟨T, U, E, h⟩ := hr
  obtain ⟨a, τ, τ', e1, e2, r⟩ := op_act h (nm_xs X (nI i + (1 : Int32)).toNatClampNeg) (nm_xs X (nI i + (2 : Int32)).toNatClampNeg) (nm_xs X (nI i + (3 : Int32)).toNatClampNeg)
  exact ws_g (wt_g pl_1 h6 hL (by omega)) <| ws_g (wt_g pl_2 h6 hL (by omega)) <| ws_g (wt_g pl_3 h6 hL (by omega)) <| ws_b e1 <| ws_g (wt_g pl_1 h6 hL (by omega)) <| ws_g (wt_g pl_2 h6 hL (by omega)) <| ws_g (wt_g pl_3 h6 hL (by omega)) <| ws_b e2 <| ws_e r
theorem sq_trace : LwT X K n i σ ((nm_g (nm_in ((nI i) + (1 : Int32)) (nm_L X)) ( ((Nm_trace (nm_xs X ((nI i) + (1 : Int32)).toNatClampNeg) σ).bind fun q269 => (nm_g (nm_in ((nI i) + (1 : Int32)) (nm_L X)) ( ((Md_trace (nm_xs X ((nI i) + (1 : Int32)).toNatClampNeg) q269.2).bind fun q271 => (if q269.1 = q271.1 then (La_law_l18 X K n) ((nI i) + (6 : Int32)) q271.2 else some ((0 : Int32), q271.2))))))))) := by
  intro hr h6 hL
  obtain ⟨T, U, E, h⟩ := hr
  obtain ⟨a, τ, τ', e1, e2, r⟩ := op_trace h (nm_xs X (nI i + (1 : Int32)).toNatClampNeg)
  exact ws_g (wt_g pl_1 h6 hL (by omega)) <| ws_b e1 <| ws_g (wt_g pl_1 h6 hL (by omega)) <| ws_b e2 <| ws_e r
theorem sq_image : LwT X K n i σ (((Nm_image σ).bind fun q273 => ((Md_image q273.2).bind fun q274 => (if q273.1 = q274.1 then (La_law_l18 X K n) ((nI i) + (6 : Int32)) q274.2 else some ((0 : Int32), q274.2))))) := by
  intro hr h6 hL
  obtain ⟨T, U, E, h⟩ := hr
  obtain ⟨a, τ, τ', e1, e2, r⟩ := op_image h 
  exact ws_b e1 <| ws_b e2 <| ws_e r
theorem sq_restore : LwT X K n i σ (((Nm_restore σ).bind fun q276 => ((Md_restore q276.2).bind fun q277 => (if q276.1 = q277.1 then (La_law_l18 X K n) ((nI i) + (6 : Int32)) q277.2 else some ((0 : Int32), q277.2))))) := by
  intro hr h6 hL
  obtain ⟨T, U, E, h⟩ := hr
  obtain ⟨a, τ, τ', e1, e2, r⟩ := op_restore h 
  exact ws_b e1 <| ws_b e2 <| ws_e r
theorem sq_status : LwT X K n i σ ((nm_g (nm_in ((nI i) + (1 : Int32)) (nm_L X)) ( ((Nm_status (nm_xs X ((nI i) + (1 : Int32)).toNatClampNeg) σ).bind fun q280 => (nm_g (nm_in ((nI i) + (1 : Int32)) (nm_L X)) ( ((Md_status (nm_xs X ((nI i) + (1 : Int32)).toNatClampNeg) q280.2).bind fun q282 => (if q280.1 = q282.1 then (La_law_l18 X K n) ((nI i) + (6 : Int32)) q282.2 else some ((0 : Int32), q282.2))))))))) := by
  intro hr h6 hL
  obtain ⟨T, U, E, h⟩ := hr
  obtain ⟨a, τ, τ', e1, e2, r⟩ := op_status h (nm_xs X (nI i + (1 : Int32)).toNatClampNeg)
  exact ws_g (wt_g pl_1 h6 hL (by omega)) <| ws_b e1 <| ws_g (wt_g pl_1 h6 hL (by omega)) <| ws_b e2 <| ws_e r
theorem law_s (hr : Rel σ) (h6 : i + 6 ≤ nm_L X) (hL : nm_L X ≤ 3072) : LwS X K n i (La_law_l18 X K (n + 1) (nI i) σ) := by
  have hn : ¬ (Int32.ofNat (nm_L X)) - (6 : Int32) < nI i := by
    show ¬ nI (nm_L X) - (6 : Int32) < nI i
    rw [pl_6, pk_sub (show 6 ≤ nm_L X by omega), pu_lt (by omega) (by omega)]
    omega
  rw [La_law_l18]
  refine ws_f hn <| ws_g (wt_0 h6 hL) ?_
  refine ws_i (sq_row hr h6 hL) ?_
  refine ws_i (sq_set hr h6 hL) ?_
  refine ws_i (sq_copy hr h6 hL) ?_
  refine ws_i (sq_element hr h6 hL) ?_
  refine ws_i (sq_show hr h6 hL) ?_
  refine ws_i (sq_holds hr h6 hL) ?_
  refine ws_i (sq_says hr h6 hL) ?_
  refine ws_i (sq_maker hr h6 hL) ?_
  refine ws_i (sq_parts hr h6 hL) ?_
  refine ws_i (sq_knows hr h6 hL) ?_
  refine ws_i (sq_kin hr h6 hL) ?_
  refine ws_i (sq_ask hr h6 hL) ?_
  refine ws_i (sq_makerOf hr h6 hL) ?_
  refine ws_i (sq_island hr h6 hL) ?_
  refine ws_i (sq_fault hr h6 hL) ?_
  refine ws_i (sq_abroad hr h6 hL) ?_
  refine ws_i (sq_fewest hr h6 hL) ?_
  refine ws_i (sq_cheapest hr h6 hL) ?_
  refine ws_i (sq_alone hr h6 hL) ?_
  refine ws_i (sq_without hr h6 hL) ?_
  refine ws_i (sq_sold hr h6 hL) ?_
  refine ws_i (sq_stands hr h6 hL) ?_
  refine ws_i (sq_lessons hr h6 hL) ?_
  refine ws_i (sq_offer hr h6 hL) ?_
  refine ws_i (sq_spend hr h6 hL) ?_
  refine ws_i (sq_council hr h6 hL) ?_
  refine ws_i (sq_letter hr h6 hL) ?_
  refine ws_i (sq_keys hr h6 hL) ?_
  refine ws_i (sq_tries hr h6 hL) ?_
  refine ws_i (sq_who hr h6 hL) ?_
  refine ws_i (sq_judge hr h6 hL) ?_
  refine ws_i (sq_behind hr h6 hL) ?_
  refine ws_i (sq_done hr h6 hL) ?_
  refine ws_i (sq_bid hr h6 hL) ?_
  refine ws_i (sq_deed hr h6 hL) ?_
  refine ws_i (sq_write hr h6 hL) ?_
  refine ws_i (sq_month hr h6 hL) ?_
  refine ws_i (sq_years hr h6 hL) ?_
  refine ws_i (sq_seed hr h6 hL) ?_
  refine ws_i (sq_act hr h6 hL) ?_
  refine ws_i (sq_trace hr h6 hL) ?_
  refine ws_i (sq_image hr h6 hL) ?_
  refine ws_i (sq_restore hr h6 hL) ?_
  refine ws_i (sq_status hr h6 hL) ?_
  exact ws_l hr
theorem law_e (h6 : nm_L X < i + 6) (hL : nm_L X ≤ 3072) (hi : i ≤ 3072) : La_law_l18 X K (n + 1) (nI i) σ = K σ := by
  have hn : (Int32.ofNat (nm_L X)) - (6 : Int32) < nI i := by
    show nI (nm_L X) - (6 : Int32) < nI i
    rw [pl_6]
    by_cases z : 6 ≤ nm_L X
    · rw [pk_sub z, pu_lt (by omega) (by omega)]
      omega
    · have h1 := sneg2 (a := nm_L X) (b := 6) (by omega) (by omega)
      refine Int32.lt_of_lt_of_le h1 ?_
      rw [pu_nn (by omega)]
      trivial
  rw [La_law_l18, if_pos hn]
theorem law_all (hL : nm_L X ≤ 3072) : ∀ n i σ, Rel σ → i ≤ nm_L X → nm_L X < i + 6 * n → ∃ τ, La_law_l18 X K n (nI i) σ = K τ := by
  intro n
  induction n with
  | zero => intro i σ _ h1 h2; omega
  | succ n ih =>
    intro i σ hr h1 h2
    by_cases h6 : i + 6 ≤ nm_L X
    · obtain ⟨τ, r, e⟩ := law_s (K := K) (n := n) hr h6 hL
      obtain ⟨ρ, e2⟩ := ih (i + 6) τ r h6 (by omega)
      exact ⟨ρ, e.trans e2⟩
    · exact ⟨σ, law_e (by omega) hL (by omega)⟩
end STP
/-- the world behind the constructors is one -/
def st_T : is_T := fun r j => if r = 0 then (if j = 7 then 4 else if j = 9 then 100 else if j = 11 then 1 else 0) else 0
theorem st_rel : Rel st_0 := by
  have a1 : ∀ r, r < 7 → 1 ≤ r → ∀ j, j < 8 → st_0.1 (2 + r) j = nI (st_T r j) := by decide +kernel
  have a2 : ∀ j, j < 12 → 6 ≤ j → st_0.1 2 j = nI (st_T 0 j) := by decide +kernel
  have b1 : ∀ r, r < 7 → 1 ≤ r → ∀ j, j < 8 → st_0.1 (71 + r) j = nI (st_T r j) := by decide +kernel
  have b2 : ∀ j, j < 6 → st_0.1 70 j = nI (st_T 0 (6 + j)) := by decide +kernel
  have c1 : ∀ s, s < 8 → st_0.1 (54 + 2 * s) 1 = nI 0 ∧ st_0.1 (54 + 2 * s) 2 = nI 0 ∧ st_0.1 (54 + 2 * s) 3 = nI 0 ∧ st_0.1 (54 + 2 * s) 4 = -nI 1 := by decide +kernel
  have c2 : ∀ s, s < 8 → st_0.1 78 s = nI 0 ∧ st_0.1 79 s = nI 0 ∧ st_0.1 80 s = nI 0 ∧ st_0.1 81 s = nI 0 := by decide +kernel
  have d1 : ∀ i, i < 51 → st_0.1 84 i = nI (wdN.getD i 0) := by decide +kernel
  have d2 : ∀ i, i < 8 → st_0.1 85 i = nI (nuN.getD i 0) := by decide +kernel
  have e1 : st_0.1 0 9 = nI 0 ∧ st_0.1 70 36 = nI 0 ∧ st_0.1 0 10 = st_0.1 70 6 ∧ st_0.1 51 1 = nI 0 ∧ st_0.1 70 35 = nI 0 ∧ st_0.1 24 0 = nI 0 ∧ st_0.1 25 0 = nI 0 ∧ st_0.1 26 0 = nI 0 := by decide +kernel
  have f1 : ∀ i, i < 8 → st_0.1 53 i = st_0.1 71 i := by decide +kernel
  have i1 : st_T 0 6 ≤ 8 ∧ (1 ≤ st_T 0 7 ∧ st_T 0 7 ≤ 8) ∧ st_T 0 8 ≤ 99 ∧ st_T 0 9 ≤ 9999 := by decide
  have i2 : ∀ m, m < 8 → st_T 1 m ≤ 6 ∧ st_T 2 m ≤ 9 ∧ st_T 3 m ≤ 99 ∧ st_T 4 m < 256 ∧ st_T 5 m < 256 ∧ st_T 6 m ≤ 3 := by decide
  refine ⟨st_T, fun _ _ => 0, fun _ _ => 0, ⟨⟨fun r j h1 h2 hj => a1 r (by omega) h1 j hj, fun j h1 h2 => a2 j h2 h1⟩, fun s hs => ?_, fun s i hs hi => absurd hi (Nat.not_lt_zero _)⟩, ⟨⟨fun r j h1 h2 hj => b1 r (by omega) h1 j hj, b2⟩, fun s hs => ?_, fun s i hs hi => absurd hi (Nat.not_lt_zero _), d1, d2⟩, ⟨⟨i1.1, i1.2.1, i1.2.2.1, i1.2.2.2, i2⟩, fun s hs => ⟨⟨Nat.zero_le _, Nat.zero_le _, Nat.zero_le _⟩, fun _ => rfl, fun h => absurd (show (0 : Nat) = 2 from h) (by decide)⟩⟩, Or.inl ⟨e1.1, e1.2.1⟩, e1.2.2.1, fun i _ h7 => f1 i (by omega), 0, by omega, e1.2.2.2.1, e1.2.2.2.2.1, fun i hi _ => absurd hi (Nat.not_lt_zero _), e1.2.2.2.2.2⟩
  · obtain ⟨k1, k2, k3, k4⟩ := c1 s hs
    exact ⟨k1, k2, k3, k4⟩
  · obtain ⟨k1, k2, k3, k4⟩ := c2 s hs
    exact ⟨k1, k2, fun _ => k3, fun h => absurd (show (0 : Nat) = 2 from h) (by decide)⟩
theorem st_is_pure : st_pure := by
  intro X hL
  obtain ⟨τ, e⟩ := law_all (K := fun (s284 : nm_St) => some ((1 : Int32), s284)) hL 1000 0 st_0 st_rel (Nat.zero_le _) (by omega)
  refine ⟨τ, ?_⟩
  unfold La_law
  rw [pl_0]
  exact e
