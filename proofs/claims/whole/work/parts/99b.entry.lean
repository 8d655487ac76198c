/-! WHAT THE LAW'S START GIVES -/
theorem k_mem {w : Cond} (h : w ∈ tables_1) : w ∈ lw_tbl := List.mem_append_right _ h
theorem k_inst : ∀ (ci : Nat) (q : vw_C), vwCl[ci]? = some q → Cond.instantiable q.1 q.2.2 ∈ ab_T := by
  intro ci q hq
  have h : vwCl.all (fun q => decide (Cond.instantiable q.1 q.2.2 ∈ tables_1) && goodWord (Cond.instantiable q.1 q.2.2)) = true := by decide +kernel
  have h1 := List.all_eq_true.mp h q (List.mem_of_getElem? hq)
  simp only [Bool.and_eq_true, decide_eq_true_eq] at h1
  exact ab_inT1 h1.1 h1.2
section ENT
variable {s : State} {b : Nat}
theorem k_classes (hT : ∀ w ∈ ab_T, w.before #[Value.ref b] s = true) : ∃ D : va_G, ∀ (c : Nat) (q : vw_C), vwCl[c]? = some q → u_Kn s q.1 q.2.1 q.2.2 (D.1 c) (D.2 c) := by
  have h0 : ∀ c : Nat, ∃ x : ClassId × (Nat → Nat), ∀ q : vw_C, vwCl[c]? = some q → u_Kn s q.1 q.2.1 q.2.2 x.1 x.2 := by
    intro c
    cases hc : vwCl[c]? with
    | none => exact ⟨(0, fun _ => 0), fun q h => by cases h⟩
    | some q =>
      obtain ⟨k, iS, h⟩ := u_known hT (ab_lay c q hc) (hT _ (k_inst c q hc))
      exact ⟨(k, iS), fun q' h' => by cases h'; exact h⟩
  obtain ⟨f, hf⟩ := Classical.axiomOfChoice h0
  exact ⟨(fun c => (f c).1, fun c => (f c).2), hf⟩
theorem k_prim {ty : FieldType} (h : (Cond.arrayClass ty).before #[Value.ref b] s = true) : ∃ c : ClassId, ArrOfT s c ty ∧ s.vm.findClass ("[" ++ ty.toString) = some c := by
  obtain ⟨c, k, comp, h1, h2, h3⟩ := Cond.arrayClass_spec h
  exact ⟨c, fun n z => ⟨fun k h => (by cases h), k, h2, comp, h3⟩, h1⟩
theorem k_obja {C : String} (h : va_AO C s) : ∃ c : ClassId, ArrOfT s c (.object C) ∧ va_RA s c (.object C) := by
  obtain ⟨comp, c, k, h1, h2, h3, h4, h5⟩ := Cond.arrayOver_spec h
  exact ⟨c, fun n z => ⟨fun k h => (by cases h), k, h3, comp, h4⟩, k, comp, h3, h4, h1, h5⟩
theorem k_arra (h : va_AOA .long s) : ∃ c : ClassId, ArrOfT s c (.array .long) ∧ s.vm.findClass ("[" ++ (FieldType.array .long).toString) = some c := by
  obtain ⟨comp, c, k, h1, h3, h4, h5⟩ := Cond.arrayOver_specA h
  exact ⟨c, fun n z => ⟨fun k h => (by cases h), k, h3, comp, h4⟩, h5⟩
theorem k_tys (hT : ∀ w ∈ ab_T, w.before #[Value.ref b] s = true) (o1 : va_AO "KerbSide$Rule" s) (o2 : va_AO "KerbSide$Street" s) (o3 : va_AOA .long s) : ∃ cy : Nat → ClassId, ∀ (k : Nat) (q : ClassId × FieldType), (ab_tys cy)[k]? = some q → ArrOfT s q.1 q.2 ∧ va_RA s q.1 q.2 := by
  obtain ⟨c0, a0, b0⟩ := k_prim (hT _ ac_wnewI)
  obtain ⟨c1, a1, b1⟩ := k_prim (hT _ ac_wnewJ)
  obtain ⟨c2, a2, b2⟩ := k_prim (hT _ ac_wnewZ)
  obtain ⟨c3, a3, b3⟩ := k_prim (hT _ ac_wnewB)
  obtain ⟨c4, a4, b4⟩ := k_obja o1
  obtain ⟨c5, a5, b5⟩ := k_obja o2
  obtain ⟨c6, a6, b6⟩ := k_arra o3
  refine ⟨fun i => if i = 20 then c0 else if i = 21 then c1 else if i = 22 then c2 else if i = 23 then c3 else if i = 24 then c4 else if i = 25 then c5 else c6, fun k q hk => ?_⟩
  match k, hk with
  | 0, hk => cases hk; exact ⟨a0, b0⟩
  | 1, hk => cases hk; exact ⟨a1, b1⟩
  | 2, hk => cases hk; exact ⟨a2, b2⟩
  | 3, hk => cases hk; exact ⟨a3, b3⟩
  | 4, hk => cases hk; exact ⟨a4, b4⟩
  | 5, hk => cases hk; exact ⟨a5, b5⟩
  | 6, hk => cases hk; exact ⟨a6, b6⟩
  | k + 7, hk => simp [ab_tys] at hk
abbrev k_st (j : Nat) : Term := .static "KerbSide$KerbReader" (ab_sn j) "[I"
theorem k_f1 : ∀ j, j < 9 → Cond.arrayOf (k_st j) .int ∈ flatC (Cond.and given_1 narrow_1) := by decide +kernel
theorem k_f2 : ∀ j, j < 9 → Cond.eq (.length (k_st j)) (.int (Int32.ofNat (ab_sc j).length)) ∈ flatC (Cond.and given_1 narrow_1) := by decide +kernel
theorem k_f3 : ∀ j, j < 9 → ∀ i, i < (ab_sc j).length → Cond.eq (.elem (k_st j) (.int (Int32.ofNat i))) (.int ((ab_sc j).getD i 0)) ∈ flatC (Cond.and given_1 narrow_1) := by decide +kernel
theorem k_f4 : ∀ j, j < 9 → Cond.laysStatic "KerbSide$KerbReader" (ab_sn j) "[I" ∈ tables_1 := by decide +kernel
theorem k_f5 : ∀ j, j < 9 → (ab_sc j).length < 2 ^ 31 := by decide +kernel
abbrev k_A (s : State) : Nat → Prop := fun q => s.heap.size ≤ q
theorem k_nA : ∀ a : Nat, a < s.heap.size → ¬ k_A s a := fun _ h => Nat.not_le.mpr h
theorem k_statics (hts : ∀ w ∈ tables_1, w.before #[Value.ref b] s = true) (hs : ∀ c ∈ flatC (Cond.and given_1 narrow_1), c.before #[Value.ref b] s = true) : ∃ t : Nat → Nat, ∀ j, j < 9 → va_Z "KerbSide$KerbReader" (ab_sn j) "[I" (.ref (t j)) (k_A s) s s.heap ∧ va_T .int (t j) (ab_sc j).length (fun i => .int ((ab_sc j).getD i 0)) (k_A s) s s.heap := by
  have h0 : ∀ j : Nat, ∃ t : Nat, j < 9 → va_Z "KerbSide$KerbReader" (ab_sn j) "[I" (.ref t) (k_A s) s s.heap ∧ va_T .int t (ab_sc j).length (fun i => .int ((ab_sc j).getD i 0)) (k_A s) s s.heap := by
    intro j
    by_cases hj : j < 9
    · obtain ⟨t, h1, h2⟩ := va_Tof (f := fun i => .int ((ab_sc j).getD i 0)) (A := k_A s) (k_f5 j hj) (hs _ (k_f1 j hj)) (va_eqt (hs _ (k_f2 j hj))) (fun i hi => va_eqt (hs _ (k_f3 j hj i hi))) k_nA
      exact ⟨t, fun _ => ⟨va_Zof (hts _ (k_f4 j hj)) (hts (.initialized "KerbSide$KerbReader") (List.mem_of_getElem? (i := 3) (by decide +kernel))) h1 k_nA, h2⟩⟩
    · exact ⟨0, fun h => absurd h hj⟩
  exact Classical.axiomOfChoice h0
def k_tm (i : Nat) : Term := ([.string "KerbSide$KerbReader" 81, .string "KerbSide$KerbReader" 93, .string "KerbSide$KerbReader" 108, .string "KerbSide$RuleReader" 86, .string "KerbSideModel" 26] : List Term).getD i (.int 0)
theorem k_s1 : ∀ i, i < 5 → Cond.exactly (k_tm i) "java/lang/String" ∈ flatC (Cond.and given_1 narrow_1) := by decide +kernel
theorem k_s2 : ∀ i, i < 5 → Cond.eq (.field (k_tm i) "java/lang/String" "coder" "B") (.int 0) ∈ flatC (Cond.and given_1 narrow_1) := by decide +kernel
theorem k_s3 : ∀ i, i < 5 → Cond.arrayOf (.field (k_tm i) "java/lang/String" "value" "[B") .byte ∈ flatC (Cond.and given_1 narrow_1) := by decide +kernel
theorem k_s4 : ∀ i, i < 5 → Cond.eq (.length (.field (k_tm i) "java/lang/String" "value" "[B")) (.int (Int32.ofNat (ab_stl.getD i 0))) ∈ flatC (Cond.and given_1 narrow_1) := by decide +kernel
theorem k_s5 : ∀ i, i < 5 → ∀ j, j < ab_stl.getD i 0 → Cond.eq (.elem (.field (k_tm i) "java/lang/String" "value" "[B") (.int (Int32.ofNat j))) (.int ((ab_sbyt.getD i []).getD j 0)) ∈ flatC (Cond.and given_1 narrow_1) := by decide +kernel
theorem k_s6 : ∀ i, i < 5 → ∀ j, j < 5 → i ≠ j → Cond.not (Cond.eq (k_tm i) (k_tm j)) ∈ flatC (Cond.and given_1 narrow_1) ∨ Cond.not (Cond.eq (k_tm j) (k_tm i)) ∈ flatC (Cond.and given_1 narrow_1) := by decide +kernel
theorem k_s7 : ∀ i, i < 5 → ab_stl.getD i 0 < 2 ^ 31 := by decide +kernel
theorem k_strings (hs : ∀ c ∈ flatC (Cond.and given_1 narrow_1), c.before #[Value.ref b] s = true) : ∃ adK adV : Nat → Nat, vk_S 5 ab_stl ab_sbyt adK adV (k_A s) s s.heap ∧ ∀ i : Nat, i < 5 → (k_tm i).eval #[Value.ref b] s none [] s = some (.ref (adK i)) :=
  vk_Sof k_s7 (fun i hi => hs _ (k_s1 i hi)) (fun i hi => hs _ (k_s2 i hi)) (fun i hi => hs _ (k_s3 i hi)) (fun i hi => hs _ (k_s4 i hi)) (fun i hi j hj => hs _ (k_s5 i hi j hj)) (fun i j hi hj e => (k_s6 i hi j hj e).imp (hs _) (hs _)) k_nA
theorem k_r1 : ∀ q ∈ ab_sites, Cond.stringRef q.1 q.2.1 (ab_stx q.2.2) ∈ tables_1 := by decide +kernel
theorem k_r2 : ∀ q ∈ ab_sites, q.2.2 < 5 ∧ (k_tm q.2.2 = .string q.1 q.2.1 ∨ Cond.eq (k_tm q.2.2) (.string q.1 q.2.1) ∈ flatC (Cond.and given_1 narrow_1)) := by decide +kernel
theorem k_sites (hts : ∀ w ∈ tables_1, w.before #[Value.ref b] s = true) (hs : ∀ c ∈ flatC (Cond.and given_1 narrow_1), c.before #[Value.ref b] s = true) {adK : Nat → Nat} (h : ∀ i : Nat, i < 5 → (k_tm i).eval #[Value.ref b] s none [] s = some (.ref (adK i))) : ∀ q ∈ ab_sites, vk_R q.1 q.2.1 (ab_stx q.2.2) (adK q.2.2) s := by
  intro q hq
  obtain ⟨h1, h2⟩ := k_r2 q hq
  refine vk_R.of (A := #[Value.ref b]) (hts _ (k_r1 q hq)) ?_
  rcases h2 with h2 | h2
  · rw [← h2]; exact h _ h1
  · obtain ⟨y, y1, y2⟩ := Cond.eq_one (args := #[Value.ref b]) (first := s) (o := none) (s := s) (idx := []) (hs _ h2)
    rw [h _ h1] at y1
    rw [y2, ← y1]
theorem k_nest (hts : ∀ w ∈ tables_1, w.before #[Value.ref b] s = true) : ∀ w ∈ ab_nest, va_Nw w s := fun w hw => by
  obtain ⟨h1, h2⟩ := List.mem_filter.mp hw
  have h3 := hts w h1
  cases w <;> first | (exact va_Nw.of rfl h3) | (cases h2)
/-- the words, classes, constants at the law's start -/
theorem k_entry (hts0 : ∀ w ∈ lw_tbl, w.before #[Value.ref b] s = true) (hgv : (Cond.and given_1 narrow_1).before #[Value.ref b] s = true) : (∀ w ∈ ab_T, w.before #[Value.ref b] s = true) ∧ va_AO "KerbSide$Rule" s ∧ va_AO "KerbSide$Street" s ∧ va_AOA .long s ∧ ∃ (D : va_G) (cy : Nat → ClassId) (ad : Nat → Nat), ab_K D cy ad (k_A s) s s.heap := by
  have hT : ∀ w ∈ ab_T, w.before #[Value.ref b] s = true := fun w hw => hts0 w (List.mem_filter.mp hw).1
  have hts : ∀ w ∈ tables_1, w.before #[Value.ref b] s = true := fun w hw => hts0 w (k_mem hw)
  have hs := flat_of_before _ hgv
  have o1 : va_AO "KerbSide$Rule" s := va_AO.of (hts _ (List.mem_of_getElem? (i := 161) (by decide +kernel)))
  have o2 : va_AO "KerbSide$Street" s := va_AO.of (hts _ (List.mem_of_getElem? (i := 199) (by decide +kernel)))
  have o3 : va_AOA .long s := hts (.arrayOver (.array .long)) (List.mem_of_getElem? (i := 237) (by decide +kernel))
  obtain ⟨D, hD⟩ := k_classes hT
  obtain ⟨cy, hcy⟩ := k_tys hT o1 o2 o3
  obtain ⟨t, ht⟩ := k_statics hts hs
  obtain ⟨adK, adV, hS, hev⟩ := k_strings hs
  have hR := k_sites hts hs hev
  have hC : va_Z "java/lang/String" "COMPACT_STRINGS" "Z" (.int 1) (k_A s) s s.heap := va_Zof (hts _ (List.mem_of_getElem? (i := 432) (by decide +kernel))) (hts (.initialized "java/lang/String") (List.mem_of_getElem? (i := 14) (by decide +kernel))) (va_eqt (hs _ (by decide +kernel))) k_nA
  have hF : va_Zq "jdk/internal/util/Preconditions" "SIOOBE_FORMATTER" "Ljava/util/function/BiFunction;" (k_A s) s s.heap := va_Zqof (hts _ (List.mem_of_getElem? (i := 451) (by decide +kernel))) (hts (.initialized "jdk/internal/util/Preconditions") (List.mem_of_getElem? (i := 16) (by decide +kernel))) (hs _ (by decide +kernel)) k_nA
  obtain ⟨f0, hf0⟩ : ∃ f0 : Nat, va_Z "jdk/internal/util/Preconditions" "SIOOBE_FORMATTER" "Ljava/util/function/BiFunction;" .null (k_A s) s s.heap ∨ va_Z "jdk/internal/util/Preconditions" "SIOOBE_FORMATTER" "Ljava/util/function/BiFunction;" (.ref f0) (k_A s) s s.heap := by
    rcases hF with h | ⟨t, h⟩
    · exact ⟨0, Or.inl h⟩
    · exact ⟨t, Or.inr h⟩
  obtain ⟨ad, p1, p2, p3, p4⟩ : ∃ ad : Nat → Nat, (∀ j, j < 9 → ad (1000 + j) = t j) ∧ (∀ i, i < 5 → ad (2000 + i) = adK i) ∧ (∀ i, i < 5 → ad (3000 + i) = adV i) ∧ ad 4000 = f0 := by
    refine ⟨fun x => if x < 2000 then t (x - 1000) else if x < 3000 then adK (x - 2000) else if x < 4000 then adV (x - 3000) else f0, fun j hj => ?_, fun i hi => ?_, fun i hi => ?_, ?_⟩
    · dsimp only
      rw [if_pos (by omega), Nat.add_sub_cancel_left]
    · dsimp only
      rw [if_neg (by omega), if_pos (by omega), Nat.add_sub_cancel_left]
    · dsimp only
      rw [if_neg (by omega), if_neg (by omega), if_pos (by omega), Nat.add_sub_cancel_left]
    · dsimp only
      rw [if_neg (by omega), if_neg (by omega), if_neg (by omega)]
  refine ⟨hT, o1, o2, o3, D, cy, ad, ⟨hD, hcy⟩, k_nest hts, fun j hj => ?_, ⟨fun i hi => ?_, fun i j hi hj e => ?_⟩, fun q hq => ?_, hC, ?_⟩
  · rw [p1 j hj]; exact ht j hj
  · dsimp only
    rw [p2 i hi, p3 i hi]; exact hS.1 i hi
  · dsimp only at e
    rw [p2 i hi, p2 j hj] at e
    exact hS.2 i j hi hj e
  · rw [p2 _ (k_r2 q hq).1]; exact hR q hq
  · rw [p4]; exact hf0
end ENT
