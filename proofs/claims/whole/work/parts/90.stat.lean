/-! what the Statement gives of the start: static arrays, texts, the script -/
def st_G : Cond := Jvm.Cond.and given_1 narrow_1
theorem st_arr : ∀ j, j < 5 → Cond.arrayOf (.static (nm_tabC j) (nm_tabF j) "[I") .int ∈ flatC st_G ∧ Cond.eq (.length (.static (nm_tabC j) (nm_tabF j) "[I")) (.int (Int32.ofNat (nm_tabN j))) ∈ flatC st_G ∧ nm_tabN j < 2 ^ 31 := by decide +kernel
theorem st_el : ∀ j, j < 5 → ∀ i, i < nm_tabN j → Cond.eq (.elem (.static (nm_tabC j) (nm_tabF j) "[I") (.int (Int32.ofNat i))) (.int ((nm_tab j).getD i 0)) ∈ flatC st_G := by decide +kernel
theorem st_lay : ∀ j, j < 5 → Cond.laysStatic (nm_tabC j) (nm_tabF j) "[I" ∈ lw_tbl ∧ Cond.initialized (nm_tabC j) ∈ lw_tbl := by decide +kernel
theorem st_cs : Cond.eq (.static "java/lang/String" "COMPACT_STRINGS" "Z") (.int 1) ∈ flatC st_G ∧ Cond.laysStatic "java/lang/String" "COMPACT_STRINGS" "Z" ∈ lw_tbl ∧ Cond.initialized "java/lang/String" ∈ lw_tbl := by decide +kernel
theorem st_si : Cond.isRef (.static "jdk/internal/util/Preconditions" "SIOOBE_FORMATTER" "Ljava/util/function/BiFunction;") ∈ flatC st_G ∧ Cond.laysStatic "jdk/internal/util/Preconditions" "SIOOBE_FORMATTER" "Ljava/util/function/BiFunction;" ∈ lw_tbl ∧ Cond.initialized "jdk/internal/util/Preconditions" ∈ lw_tbl := by decide +kernel
def st_tm (i : Nat) : Term := .string nm_RT (nm_six i)
theorem st_s1 : ∀ i, i < 8 → nm_slen.getD i 0 < 2 ^ 31 ∧ Cond.exactly (st_tm i) "java/lang/String" ∈ flatC st_G ∧ Cond.eq (.field (st_tm i) "java/lang/String" "coder" "B") (.int 0) ∈ flatC st_G ∧ Cond.arrayOf (.field (st_tm i) "java/lang/String" "value" "[B") .byte ∈ flatC st_G ∧ Cond.eq (.length (.field (st_tm i) "java/lang/String" "value" "[B")) (.int (Int32.ofNat (nm_slen.getD i 0))) ∈ flatC st_G ∧ Cond.stringRef nm_RT (nm_six i) (nm_stx i) ∈ lw_tbl := by decide +kernel
theorem st_s2 : ∀ i, i < 8 → ∀ j, j < nm_slen.getD i 0 → Cond.eq (.elem (.field (st_tm i) "java/lang/String" "value" "[B") (.int (Int32.ofNat j))) (.int ((nm_sbyt.getD i []).getD j 0)) ∈ flatC st_G := by decide +kernel
theorem st_s3 : ∀ i, i < 8 → ∀ j, j < 8 → i ≠ j → Cond.not (Cond.eq (st_tm i) (st_tm j)) ∈ flatC st_G ∨ Cond.not (Cond.eq (st_tm j) (st_tm i)) ∈ flatC st_G := by decide +kernel
theorem st_SF {p : Program} {s : State} {m : MethodId} {meth : Method} {c : Code} {b L : Nat} {xs : Nat → Int32} (C0 : lw_At p s m meth c b L xs) : ∃ sv : Nat → Option Nat, sv 4000 = some b ∧ ∀ (l : Launch) (D : va_G) (ad : Nat → Nat) (cs : ClassId × ClassId × ClassId), nm_SF (l, D, ad, sv, s.heap.size, cs, (L, xs)) s := by
  obtain ⟨hx, hb, hr, hml, hown, hts, hX, hbl, hlocks, hgv⟩ := id C0
  have hs := flat_of_before _ hgv
  have hA : ∀ a : Nat, a < s.heap.size → ¬ (fun q : Nat => s.heap.size ≤ q) a := fun a h => Nat.not_le.mpr h
  have hT : ∀ j : Nat, ∃ t : Nat, j < 5 → va_Z (nm_tabC j) (nm_tabF j) "[I" (.ref t) (fun q : Nat => s.heap.size ≤ q) s s.heap ∧ va_T .int t (nm_tabN j) (fun i => .int ((nm_tab j).getD i 0)) (fun q : Nat => s.heap.size ≤ q) s s.heap := by
    intro j
    by_cases hj : j < 5
    · obtain ⟨h1, h2, h3⟩ := st_arr j hj
      obtain ⟨t, e1, e2⟩ := va_Tof (f := fun i => .int ((nm_tab j).getD i 0)) h3 (hs _ h1) (va_eqt (hs _ h2)) (fun i hi => va_eqt (hs _ (st_el j hj i hi))) hA
      exact ⟨t, fun _ => ⟨va_Zof (hts _ (st_lay j hj).1) (hts _ (st_lay j hj).2) e1 hA, e2⟩⟩
    · exact ⟨0, fun h => absurd h hj⟩
  obtain ⟨tt, htt⟩ := Classical.axiomOfChoice hT
  obtain ⟨adK, adV, hV, hE⟩ := vk_Sof (args := #[Value.ref b]) (s := s) (N := 8) (tm := st_tm) (len := nm_slen) (byt := nm_sbyt) (A := fun q : Nat => s.heap.size ≤ q) (fun i hi => (st_s1 i hi).1) (fun i hi => hs _ (st_s1 i hi).2.1) (fun i hi => hs _ (st_s1 i hi).2.2.1) (fun i hi => hs _ (st_s1 i hi).2.2.2.1) (fun i hi => hs _ (st_s1 i hi).2.2.2.2.1) (fun i hi j hj => hs _ (st_s2 i hi j hj)) (fun i j hi hj hij => (st_s3 i hi j hj hij).elim (fun h => Or.inl (hs _ h)) (fun h => Or.inr (hs _ h))) hA
  have hZ : ∃ r : Option Nat, va_Z "jdk/internal/util/Preconditions" "SIOOBE_FORMATTER" "Ljava/util/function/BiFunction;" (va_rf r) (fun q : Nat => s.heap.size ≤ q) s s.heap := by
    rcases va_Zqof (hts _ st_si.2.1) (hts _ st_si.2.2) (hs _ st_si.1) hA with h | ⟨t, h⟩
    · exact ⟨none, h⟩
    · exact ⟨some t, h⟩
  obtain ⟨sio, hsio⟩ := hZ
  refine ⟨fun k => if k = 4000 then some b else if k = 5000 then sio else if 3000 ≤ k then some (adV (k - 3000)) else if 2000 ≤ k then some (adK (k - 2000)) else some (tt (k - 1000)), rfl, fun l D ad cs => ?_⟩
  refine ⟨fun j hj => ⟨tt j, ?_, (htt j hj).1, (htt j hj).2⟩, ⟨adK, adV, fun i hi => ⟨?_, ?_, vk_R.of (hts _ (st_s1 i hi).2.2.2.2.2) (hE i hi)⟩, hV⟩, va_Zof (hts _ st_cs.2.1) (hts _ st_cs.2.2) (va_eqi (hs _ st_cs.1)) hA, ?_, b, rfl, hX, hbl, Nat.not_le.mpr hbl⟩
  · show (if 1000 + j = 4000 then _ else if 1000 + j = 5000 then _ else if 3000 ≤ 1000 + j then _ else if 2000 ≤ 1000 + j then _ else some (tt (1000 + j - 1000))) = _
    rw [if_neg (by omega), if_neg (by omega), if_neg (by omega), if_neg (by omega), show 1000 + j - 1000 = j by omega]
  · show (if 2000 + i = 4000 then _ else if 2000 + i = 5000 then _ else if 3000 ≤ 2000 + i then _ else if 2000 ≤ 2000 + i then some (adK (2000 + i - 2000)) else _) = _
    rw [if_neg (by omega), if_neg (by omega), if_neg (by omega), if_pos (by omega), show 2000 + i - 2000 = i by omega]
  · show (if 3000 + i = 4000 then _ else if 3000 + i = 5000 then _ else if 3000 ≤ 3000 + i then some (adV (3000 + i - 3000)) else _) = _
    rw [if_neg (by omega), if_neg (by omega), if_pos (by omega), show 3000 + i - 3000 = i by omega]
  · exact hsio
