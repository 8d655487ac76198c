/-! CONTRACTS OF THE CLASS: KerbSide's own, the plain ones -/
theorem c_hasKerb {d : Nat} {h : ab_H} {Q : ab_Q}  (k1 : 0 < zv h 15 0 → Q (some (.int (iI 1))) h) (k0 : ¬ 0 < zv h 15 0 → Q (some (.int (iI 0))) h) : ab_X d mX11_hasKerb 0 (lv_args 0 [.ref 0]) [] h Q := by
  show ab_X d mX11_hasKerb 0 [(0, .ref 0)] [] h Q
  refine ab_aload_n (k := 0) dX11_hasKerb_0 rfl rfl ?_
  refine z_getP (b := 15) dX11_hasKerb_1 fX11_35 rfl rfl rfl ?_
  refine z_getI dX11_hasKerb_4 fX11_286 rfl (Or.inl rfl) ?_
  have b1 := zv_R h 15 0
  refine z_if_le (tgt := 14) dX11_hasKerb_7 (by decide) (by omega) (fun c7 => ?_) (fun c7 => ?_)
  · skip
    refine z_iconst dX11_hasKerb_14 ?_
    refine z_zret dX11_hasKerb_15 rfl (Or.inl rfl) ?_
    first | exact k0 (by omega) | exact k1 (by omega)
  · skip
    refine z_iconst dX11_hasKerb_10 ?_
    refine ab_goto (tgt := 15) dX11_hasKerb_11 (by decide) ?_
    refine z_zret dX11_hasKerb_15 rfl (Or.inr rfl) ?_
    first | exact k0 (by omega) | exact k1 (by omega)
theorem c_look {d : Nat} {h : ab_H} {Q : ab_Q} {n : Nat} (hn : zv h 15 0 = n) (hn2 : n ≤ 20) (K : ∀ h', sm [167, 168, 169] h h' → GR h' (scan (frm h 36 (-1)) n) → Q none h') : ab_X (d + 3) mX11_lookAtGaps 0 (lv_args 0 [.ref 0]) [] h Q := by
  show ab_X (d + 3) mX11_lookAtGaps 0 [(0, .ref 0)] [] h Q
  refine ab_aload_n (k := 0) dX11_lookAtGaps_0 rfl rfl ?_
  refine z_getP (b := 167) dX11_lookAtGaps_1 fX11_73 rfl rfl rfl ?_
  refine ab_aload_n (k := 0) dX11_lookAtGaps_4 rfl rfl ?_
  refine z_getP (b := 15) dX11_lookAtGaps_5 fX11_35 rfl rfl rfl ?_
  refine ab_aload_n (k := 0) dX11_lookAtGaps_8 rfl rfl ?_
  refine z_getP (b := 36) dX11_lookAtGaps_9 fX11_53 rfl rfl rfl ?_
  refine z_iconst dX11_lookAtGaps_12 ?_
  refine ab_callV (As := [.ref 15, .ref 36, .int (iI (-1))]) (rest := []) dX11_lookAtGaps_13 lX11_301 rfl (Nat.le_of_ble_eq_true rfl) (Nat.le_of_ble_eq_true rfl) rfl ?_
  refine c_measure (Or.inl rfl) hn hn2 (by decide) (fun h1 hs1 hG1 => ?_)
  show ab_X (d + 3) mX11_lookAtGaps 16 [(0, .ref 0)] [] h1 _
  refine z_vret dX11_lookAtGaps_16 rfl ?_
  exact K h1 hs1 hG1
theorem c_end {d : Nat} {h : ab_H} {Q : ab_Q} {s : Int} (hs : inR s) (k1 : 0 ≤ s ∧ s ≤ zv h 1 1 → Q (some (.int (iI 1))) (zp h 1 1 s)) (k0 : ¬ (0 ≤ s ∧ s ≤ zv h 1 1) → Q (some (.int (iI 0))) h) : ab_X d mX11_end 0 (lv_args 0 [.ref 0, .int (iI s)]) [] h Q := by
  show ab_X d mX11_end 0 [(0, .ref 0), (1, .int (iI s))] [] h Q
  refine ab_iload_n (k := 1) dX11_end_0 rfl rfl ?_
  refine z_if_lt (tgt := 15) dX11_end_1 (by decide) (by omega) (fun c1 => ?_) (fun c1 => ?_)
  · skip
    refine z_iconst dX11_end_15 ?_
    refine z_zret dX11_end_16 rfl (Or.inl rfl) ?_
    first | exact k0 (by omega) | exact k1 (by omega)
  · skip
    refine ab_iload_n (k := 1) dX11_end_4 rfl rfl ?_
    refine ab_aload_n (k := 0) dX11_end_5 rfl rfl ?_
    refine z_getP (b := 1) dX11_end_6 fX11_10 rfl rfl rfl ?_
    refine z_getI dX11_end_9 fX11_108 rfl (Or.inl rfl) ?_
    have b1 := zv_R h 1 1
    refine z_icmp_le (tgt := 17) dX11_end_12 (by decide) (by omega) (by omega) (fun c12 => ?_) (fun c12 => ?_)
    · skip
      refine ab_aload_n (k := 0) dX11_end_17 rfl rfl ?_
      refine z_getP (b := 1) dX11_end_18 fX11_10 rfl rfl rfl ?_
      refine ab_iload_n (k := 1) dX11_end_21 rfl rfl ?_
      refine z_putI dX11_end_22 fX11_108 rfl rfl ?_
      refine z_iconst dX11_end_25 ?_
      refine z_zret dX11_end_26 rfl (Or.inr rfl) ?_
      first | exact k0 (by omega) | exact k1 (by omega)
    · skip
      refine z_iconst dX11_end_15 ?_
      refine z_zret dX11_end_16 rfl (Or.inl rfl) ?_
      first | exact k0 (by omega) | exact k1 (by omega)
theorem c_sort {d : Nat} {h : ab_H} {Q : ab_Q} {s x : Int} (hs : inR s) (hx : inR x) (hN : zv h 15 3 ≤ 4) (k0 : 0 ≤ s ∧ s < zv h 15 3 → x = 0 → Q (some (.int (iI (zv h 16 s.toNat)))) h) (k1 : 0 ≤ s ∧ s < zv h 15 3 → x = 1 → Q (some (.int (iI (zv h 17 s.toNat)))) h) (kn : ¬ ((0 ≤ s ∧ s < zv h 15 3) ∧ (x = 0 ∨ x = 1)) → Q (some (.int (iI (-1)))) h) : ab_X (d + 2) mX11_sort 0 (lv_args 0 [.ref 0, .int (iI s), .int (iI x)]) [] h Q := by
  show ab_X (d + 2) mX11_sort 0 [(0, .ref 0), (1, .int (iI s)), (2, .int (iI x))] [] h Q
  refine ab_aload_n (k := 0) dX11_sort_0 rfl rfl ?_
  refine z_getP (b := 15) dX11_sort_1 fX11_35 rfl rfl rfl ?_
  refine ab_iload_n (k := 1) dX11_sort_4 rfl rfl ?_
  refine ab_callV (As := [.int (iI s)]) (rest := []) dX11_sort_5 lX11_171 rfl (Nat.le_of_ble_eq_true rfl) (Nat.le_of_ble_eq_true rfl) rfl ?_
  refine c_hasSort (by omega) (fun g5 => ?_) (fun g5 => ?_)
  · skip
    try simp only [Int.toNat_natCast] at g5
    have gL := g5
    show ab_X (d + 2) mX11_sort 8 [(0, .ref 0), (1, .int (iI s)), (2, .int (iI x))] [.int (iI 1)] h _
    refine z_if_ne (tgt := 13) dX11_sort_8 (by decide) (by decide) (fun _ => ?_) (fun c8 => absurd c8 (by decide))
    refine ab_iload_n (k := 2) dX11_sort_13 rfl rfl ?_
    refine z_if_ne (tgt := 26) dX11_sort_14 (by decide) (by omega) (fun c14 => ?_) (fun c14 => ?_)
    · skip
      refine ab_iload_n (k := 2) dX11_sort_26 rfl rfl ?_
      refine z_iconst dX11_sort_27 ?_
      refine z_icmp_ne (tgt := 42) dX11_sort_28 (by decide) (by omega) (by decide) (fun c28 => ?_) (fun c28 => ?_)
      · skip
        refine z_iconst dX11_sort_42 ?_
        refine z_iret dX11_sort_43 rfl ?_
        first | exact kn (by omega) | exact k0 (by omega) (by omega) | exact k1 (by omega) (by omega)
      · skip
        refine ab_aload_n (k := 0) dX11_sort_31 rfl rfl ?_
        refine z_getP (b := 15) dX11_sort_32 fX11_35 rfl rfl rfl ?_
        refine ab_iload_n (k := 1) dX11_sort_35 rfl rfl ?_
        refine ab_callV (As := [.int (iI s)]) (rest := []) dX11_sort_36 lX11_177 rfl (Nat.le_of_ble_eq_true rfl) (Nat.le_of_ble_eq_true rfl) rfl ?_
        refine c_weightOf (by omega) (by omega) (fun _ => ?_) (fun q => absurd (show _ from ⟨by omega, by omega⟩) q)
        show ab_X (d + 2) mX11_sort 39 [(0, .ref 0), (1, .int (iI s)), (2, .int (iI x))] [.int (iI (zv h 17 s.toNat))] h _
        refine ab_goto (tgt := 43) dX11_sort_39 (by decide) ?_
        refine z_iret dX11_sort_43 rfl ?_
        first | exact kn (by omega) | exact k0 (by omega) (by omega) | exact k1 (by omega) (by omega)
    · skip
      refine ab_aload_n (k := 0) dX11_sort_17 rfl rfl ?_
      refine z_getP (b := 15) dX11_sort_18 fX11_35 rfl rfl rfl ?_
      refine ab_iload_n (k := 1) dX11_sort_21 rfl rfl ?_
      refine ab_callV (As := [.int (iI s)]) (rest := []) dX11_sort_22 lX11_174 rfl (Nat.le_of_ble_eq_true rfl) (Nat.le_of_ble_eq_true rfl) rfl ?_
      refine c_lengthOf (by omega) (by omega) (fun _ => ?_) (fun q => absurd (show _ from ⟨by omega, by omega⟩) q)
      show ab_X (d + 2) mX11_sort 25 [(0, .ref 0), (1, .int (iI s)), (2, .int (iI x))] [.int (iI (zv h 16 s.toNat))] h _
      refine z_iret dX11_sort_25 rfl ?_
      first | exact kn (by omega) | exact k0 (by omega) (by omega) | exact k1 (by omega) (by omega)
  · skip
    try simp only [Int.toNat_natCast] at g5
    have gL := g5
    show ab_X (d + 2) mX11_sort 8 [(0, .ref 0), (1, .int (iI s)), (2, .int (iI x))] [.int (iI 0)] h _
    refine z_if_ne (tgt := 13) dX11_sort_8 (by decide) (by decide) (fun c8 => absurd c8 (by decide)) (fun _ => ?_)
    refine z_iconst dX11_sort_11 ?_
    refine z_iret dX11_sort_12 rfl ?_
    first | exact kn (by omega) | exact k0 (by omega) (by omega) | exact k1 (by omega) (by omega)
theorem c_rule {d : Nat} {h : ab_H} {Q : ab_Q} {s : Int} (hs : inR s) (k1 : 0 < zv h 15 0 ∧ -1 ≤ s ∧ s < zv h 0 5 → Q (some (.int (iI 1))) (zp h 0 6 s)) (k0 : ¬ (0 < zv h 15 0 ∧ -1 ≤ s ∧ s < zv h 0 5) → Q (some (.int (iI 0))) h) : ab_X (d + 1) mX11_rule 0 (lv_args 0 [.ref 0, .int (iI s)]) [] h Q := by
  show ab_X (d + 1) mX11_rule 0 [(0, .ref 0), (1, .int (iI s))] [] h Q
  refine ab_aload_n (k := 0) dX11_rule_0 rfl rfl ?_
  refine ab_callV (As := []) (rest := []) dX11_rule_1 lX11_180 rfl (Nat.le_of_ble_eq_true rfl) (Nat.le_of_ble_eq_true rfl) rfl ?_
  refine c_hasKerb (fun g1 => ?_) (fun g1 => ?_)
  · skip
    try simp only [Int.toNat_natCast] at g1
    have gL := g1
    show ab_X (d + 1) mX11_rule 4 [(0, .ref 0), (1, .int (iI s))] [.int (iI 1)] h _
    refine z_if_eq (tgt := 20) dX11_rule_4 (by decide) (by decide) (fun c4 => absurd c4 (by decide)) (fun _ => ?_)
    refine ab_iload_n (k := 1) dX11_rule_7 rfl rfl ?_
    refine z_iconst dX11_rule_8 ?_
    refine z_icmp_lt (tgt := 20) dX11_rule_9 (by decide) (by omega) (by decide) (fun c9 => ?_) (fun c9 => ?_)
    · skip
      refine z_iconst dX11_rule_20 ?_
      refine z_zret dX11_rule_21 rfl (Or.inl rfl) ?_
      first | exact k0 (by omega) | exact k1 (by omega)
    · skip
      refine ab_iload_n (k := 1) dX11_rule_12 rfl rfl ?_
      refine ab_aload_n (k := 0) dX11_rule_13 rfl rfl ?_
      refine z_getI dX11_rule_14 fX11_146 rfl (Or.inl rfl) ?_
      have b1 := zv_R h 0 5
      refine z_icmp_lt (tgt := 22) dX11_rule_17 (by decide) (by omega) (by omega) (fun c17 => ?_) (fun c17 => ?_)
      · skip
        refine ab_aload_n (k := 0) dX11_rule_22 rfl rfl ?_
        refine ab_iload_n (k := 1) dX11_rule_23 rfl rfl ?_
        refine z_putI dX11_rule_24 fX11_46 rfl rfl ?_
        refine z_iconst dX11_rule_27 ?_
        refine z_zret dX11_rule_28 rfl (Or.inr rfl) ?_
        first | exact k0 (by omega) | exact k1 (by omega)
      · skip
        refine z_iconst dX11_rule_20 ?_
        refine z_zret dX11_rule_21 rfl (Or.inl rfl) ?_
        first | exact k0 (by omega) | exact k1 (by omega)
  · skip
    try simp only [Int.toNat_natCast] at g1
    have gL := g1
    show ab_X (d + 1) mX11_rule 4 [(0, .ref 0), (1, .int (iI s))] [.int (iI 0)] h _
    refine z_if_eq (tgt := 20) dX11_rule_4 (by decide) (by decide) (fun _ => ?_) (fun c4 => absurd c4 (by decide))
    refine z_iconst dX11_rule_20 ?_
    refine z_zret dX11_rule_21 rfl (Or.inl rfl) ?_
    first | exact k0 (by omega) | exact k1 (by omega)
theorem c_obey {d : Nat} {h : ab_H} {Q : ab_Q} {s : Int} (hs : inR s) (k1 : 0 < zv h 15 0 ∧ 0 ≤ s ∧ s ≤ 100 → Q (some (.int (iI 1))) (zp h 15 1 s)) (k0 : ¬ (0 < zv h 15 0 ∧ 0 ≤ s ∧ s ≤ 100) → Q (some (.int (iI 0))) h) : ab_X (d + 1) mX11_obey 0 (lv_args 0 [.ref 0, .int (iI s)]) [] h Q := by
  show ab_X (d + 1) mX11_obey 0 [(0, .ref 0), (1, .int (iI s))] [] h Q
  refine ab_aload_n (k := 0) dX11_obey_0 rfl rfl ?_
  refine ab_callV (As := []) (rest := []) dX11_obey_1 lX11_180 rfl (Nat.le_of_ble_eq_true rfl) (Nat.le_of_ble_eq_true rfl) rfl ?_
  refine c_hasKerb (fun g1 => ?_) (fun g1 => ?_)
  · skip
    try simp only [Int.toNat_natCast] at g1
    have gL := g1
    show ab_X (d + 1) mX11_obey 4 [(0, .ref 0), (1, .int (iI s))] [.int (iI 1)] h _
    refine z_if_eq (tgt := 17) dX11_obey_4 (by decide) (by decide) (fun c4 => absurd c4 (by decide)) (fun _ => ?_)
    refine ab_iload_n (k := 1) dX11_obey_7 rfl rfl ?_
    refine z_if_lt (tgt := 17) dX11_obey_8 (by decide) (by omega) (fun c8 => ?_) (fun c8 => ?_)
    · skip
      refine z_iconst dX11_obey_17 ?_
      refine z_zret dX11_obey_18 rfl (Or.inl rfl) ?_
      first | exact k0 (by omega) | exact k1 (by omega)
    · skip
      refine ab_iload_n (k := 1) dX11_obey_11 rfl rfl ?_
      refine z_bipush dX11_obey_12 (by decide) ?_
      refine z_icmp_le (tgt := 19) dX11_obey_14 (by decide) (by omega) (by decide) (fun c14 => ?_) (fun c14 => ?_)
      · skip
        refine ab_aload_n (k := 0) dX11_obey_19 rfl rfl ?_
        refine z_getP (b := 15) dX11_obey_20 fX11_35 rfl rfl rfl ?_
        refine ab_iload_n (k := 1) dX11_obey_23 rfl rfl ?_
        refine z_putI dX11_obey_24 fX11_184 rfl rfl ?_
        refine z_iconst dX11_obey_27 ?_
        refine z_zret dX11_obey_28 rfl (Or.inr rfl) ?_
        first | exact k0 (by omega) | exact k1 (by omega)
      · skip
        refine z_iconst dX11_obey_17 ?_
        refine z_zret dX11_obey_18 rfl (Or.inl rfl) ?_
        first | exact k0 (by omega) | exact k1 (by omega)
  · skip
    try simp only [Int.toNat_natCast] at g1
    have gL := g1
    show ab_X (d + 1) mX11_obey 4 [(0, .ref 0), (1, .int (iI s))] [.int (iI 0)] h _
    refine z_if_eq (tgt := 17) dX11_obey_4 (by decide) (by decide) (fun _ => ?_) (fun c4 => absurd c4 (by decide))
    refine z_iconst dX11_obey_17 ?_
    refine z_zret dX11_obey_18 rfl (Or.inl rfl) ?_
    first | exact k0 (by omega) | exact k1 (by omega)
theorem c_placeZ {d : Nat} {h : ab_H} {Q : ab_Q} {fr : Nat → Bool} {n L : Nat} {m : Int} (hn : n ≤ 20) (hL : 1 ≤ L ∧ L ≤ 100) (hm : inR m ∧ 0 ≤ m ∧ m ≤ 2147483647) (hG : GR h (scan fr n)) (K1 : ∀ p : Nat, (pls fr L n)[m.toNat]? = some p → Q (some (.int (iI (p : Int)))) h) (K0 : (pls fr L n)[m.toNat]? = none → Q (some (.int (iI (-1)))) h) : ab_X (d + 1) mX2_placeFor 0 (lv_args 0 [.ref 167, .int (iI (L : Int)), .int (iI m)]) [] h Q := by
  obtain ⟨q, rfl⟩ : ∃ q : Nat, m = q := ⟨m.toNat, by omega⟩
  rw [Int.toNat_natCast] at K1 K0
  exact c_placeG hn hL (by omega) hG K1 K0
theorem c_fits {d : Nat} {h : ab_H} {Q : ab_Q} {s i : Int} {n L : Nat} (hs : inR s) (hi : inR i) (hn : zv h 15 0 = n) (hn2 : n ≤ 20) (hN : zv h 15 3 ≤ 4) (hL : 0 ≤ s ∧ s < zv h 15 3 → zv h 16 s.toNat = L ∧ 1 ≤ L ∧ L ≤ 9) (k0 : ¬ ((0 ≤ s ∧ s < zv h 15 3) ∧ -1 ≤ i) → Q (some (.int (iI (-1)))) h) (k1 : 0 ≤ s ∧ s < zv h 15 3 → i = -1 → ∀ h1, sm [167, 168, 169] h h1 → Q (some (.int (iI ((pls (frm h 36 (-1)) L n).length : Int)))) h1) (k2 : 0 ≤ s ∧ s < zv h 15 3 → 0 ≤ i → ∀ h1, sm [167, 168, 169] h h1 → ∀ p : Nat, (pls (frm h 36 (-1)) L n)[i.toNat]? = some p → Q (some (.int (iI (p : Int)))) h1) (k3 : 0 ≤ s ∧ s < zv h 15 3 → 0 ≤ i → ∀ h1, sm [167, 168, 169] h h1 → (pls (frm h 36 (-1)) L n)[i.toNat]? = none → Q (some (.int (iI (-1)))) h1) : ab_X (d + 4) mX11_fits 0 (lv_args 0 [.ref 0, .int (iI s), .int (iI i)]) [] h Q := by
  show ab_X (d + 4) mX11_fits 0 [(0, .ref 0), (1, .int (iI s)), (2, .int (iI i))] [] h Q
  refine ab_aload_n (k := 0) dX11_fits_0 rfl rfl ?_
  refine z_getP (b := 15) dX11_fits_1 fX11_35 rfl rfl rfl ?_
  refine ab_iload_n (k := 1) dX11_fits_4 rfl rfl ?_
  refine ab_callV (As := [.int (iI s)]) (rest := []) dX11_fits_5 lX11_171 rfl (Nat.le_of_ble_eq_true rfl) (Nat.le_of_ble_eq_true rfl) rfl ?_
  refine c_hasSort (by omega) (fun g5 => ?_) (fun g5 => ?_)
  · skip
    try simp only [Int.toNat_natCast] at g5
    have gL := g5
    show ab_X (d + 4) mX11_fits 8 [(0, .ref 0), (1, .int (iI s)), (2, .int (iI i))] [.int (iI 1)] h _
    refine z_if_eq (tgt := 16) dX11_fits_8 (by decide) (by decide) (fun c8 => absurd c8 (by decide)) (fun _ => ?_)
    refine ab_iload_n (k := 2) dX11_fits_11 rfl rfl ?_
    refine z_iconst dX11_fits_12 ?_
    refine z_icmp_ge (tgt := 18) dX11_fits_13 (by decide) (by omega) (by decide) (fun c13 => ?_) (fun c13 => ?_)
    · skip
      refine ab_aload_n (k := 0) dX11_fits_18 rfl rfl ?_
      refine ab_callV (As := []) (rest := []) dX11_fits_19 lX11_187 rfl (Nat.le_of_ble_eq_true rfl) (Nat.le_of_ble_eq_true rfl) rfl ?_
      refine c_look hn hn2 (fun h1 hs1 hG1 => ?_)
      have e150 : zv h1 15 0 = zv h 15 0 := hs1.1 15 0 (by decide)
      have e153 : zv h1 15 3 = zv h 15 3 := hs1.1 15 3 (by decide)
      show ab_X (d + 4) mX11_fits 22 [(0, .ref 0), (1, .int (iI s)), (2, .int (iI i))] [] h1 _
      refine ab_aload_n (k := 0) dX11_fits_22 rfl rfl ?_
      refine z_getP (b := 15) dX11_fits_23 fX11_35 rfl rfl rfl ?_
      refine ab_iload_n (k := 1) dX11_fits_26 rfl rfl ?_
      refine ab_callV (As := [.int (iI s)]) (rest := []) dX11_fits_27 lX11_174 rfl (Nat.le_of_ble_eq_true rfl) (Nat.le_of_ble_eq_true rfl) rfl ?_
      refine c_lengthOf (by omega) (by omega) (fun _ => ?_) (fun q => absurd (show _ from ⟨by omega, by omega⟩) q)
      show ab_X (d + 4) mX11_fits 30 [(0, .ref 0), (1, .int (iI s)), (2, .int (iI i))] [.int (iI (zv h1 16 s.toNat))] h1 _
      refine z_is (y := (L : Int)) ((hs1.1 16 _ (by decide)).trans (hL (by omega)).1) ?_
      refine ab_istore_n (ls' := [(3, .int (iI (L : Int))), (0, .ref 0), (1, .int (iI s)), (2, .int (iI i))]) dX11_fits_30 rfl (by decide) rfl ?_
      have hLb := (hL (by omega)).2
      refine ab_iload_n (k := 3) dX11_fits_31 rfl rfl ?_
      refine z_iconst dX11_fits_32 ?_
      refine z_icmp_ne (tgt := 47) dX11_fits_33 (by decide) (by omega) (by decide) (fun c33 => ?_) (fun c33 => ?_)
      · skip
        refine ab_aload_n (k := 1) dX11_fits_47 rfl rfl ?_
        refine z_getP (b := 167) dX11_fits_48 fX11_73 rfl rfl rfl ?_
        refine ab_iload_n (k := 0) dX11_fits_51 rfl rfl ?_
        refine ab_iload_n (k := 3) dX11_fits_52 rfl rfl ?_
        refine ab_callV (As := [.int (iI (L : Int)), .int (iI i)]) (rest := []) dX11_fits_53 lX11_193 rfl (Nat.le_of_ble_eq_true rfl) (Nat.le_of_ble_eq_true rfl) rfl ?_
        refine c_placeZ hn2 (by omega) (by omega) hG1 (fun p hp => ?_) (fun hp => ?_)
        · skip
          show ab_X (d + 4) mX11_fits 56 [(3, .int (iI (L : Int))), (0, .ref 0), (1, .int (iI s)), (2, .int (iI i))] [.int (iI (p : Int))] h1 _
          refine z_iret dX11_fits_56 rfl ?_
          first | exact k0 (by omega) | exact k1 (by omega) (by omega) _ hs1 | exact k2 (by omega) (by omega) _ hs1 p hp | exact k3 (by omega) (by omega) _ hs1 hp
        · skip
          show ab_X (d + 4) mX11_fits 56 [(3, .int (iI (L : Int))), (0, .ref 0), (1, .int (iI s)), (2, .int (iI i))] [.int (iI (-1))] h1 _
          refine z_iret dX11_fits_56 rfl ?_
          first | exact k0 (by omega) | exact k1 (by omega) (by omega) _ hs1 | exact k2 (by omega) (by omega) _ hs1 p hp | exact k3 (by omega) (by omega) _ hs1 hp
      · skip
        refine ab_aload_n (k := 1) dX11_fits_36 rfl rfl ?_
        refine z_getP (b := 167) dX11_fits_37 fX11_73 rfl rfl rfl ?_
        refine ab_iload_n (k := 0) dX11_fits_40 rfl rfl ?_
        refine ab_callV (As := [.int (iI (L : Int))]) (rest := []) dX11_fits_41 lX11_190 rfl (Nat.le_of_ble_eq_true rfl) (Nat.le_of_ble_eq_true rfl) rfl ?_
        refine c_placesG hn2 (by omega) hG1 ?_
        show ab_X (d + 4) mX11_fits 44 [(3, .int (iI (L : Int))), (0, .ref 0), (1, .int (iI s)), (2, .int (iI i))] [.int (iI ((pls (frm h 36 (-1)) L n).length : Int))] h1 _
        refine ab_goto (tgt := 56) dX11_fits_44 (by decide) ?_
        refine z_iret dX11_fits_56 rfl ?_
        first | exact k0 (by omega) | exact k1 (by omega) (by omega) _ hs1 | exact k2 (by omega) (by omega) _ hs1 p hp | exact k3 (by omega) (by omega) _ hs1 hp
    · skip
      refine z_iconst dX11_fits_16 ?_
      refine z_iret dX11_fits_17 rfl ?_
      first | exact k0 (by omega) | exact k1 (by omega) (by omega) _ hs1 | exact k2 (by omega) (by omega) _ hs1 p hp | exact k3 (by omega) (by omega) _ hs1 hp
  · skip
    try simp only [Int.toNat_natCast] at g5
    have gL := g5
    show ab_X (d + 4) mX11_fits 8 [(0, .ref 0), (1, .int (iI s)), (2, .int (iI i))] [.int (iI 0)] h _
    refine z_if_eq (tgt := 16) dX11_fits_8 (by decide) (by decide) (fun _ => ?_) (fun c8 => absurd c8 (by decide))
    refine z_iconst dX11_fits_16 ?_
    refine z_iret dX11_fits_17 rfl ?_
    first | exact k0 (by omega) | exact k1 (by omega) (by omega) _ hs1 | exact k2 (by omega) (by omega) _ hs1 p hp | exact k3 (by omega) (by omega) _ hs1 hp
theorem c_image {d : Nat} {h : ab_H} {Q : ab_Q}  (k0 : ¬ 0 < zv h 15 0 → Q (some (.int (iI (-1)))) h) (k1 : 0 < zv h 15 0 → ∀ h1, cpR h h1 42 36 → Q (some (.int (iI (zv h 36 2)))) (zp h1 0 10 1)) : ab_X (d + 2) mX11_image 0 (lv_args 0 [.ref 0]) [] h Q := by
  show ab_X (d + 2) mX11_image 0 [(0, .ref 0)] [] h Q
  refine ab_aload_n (k := 0) dX11_image_0 rfl rfl ?_
  refine ab_callV (As := []) (rest := []) dX11_image_1 lX11_180 rfl (Nat.le_of_ble_eq_true rfl) (Nat.le_of_ble_eq_true rfl) rfl ?_
  refine c_hasKerb (fun g1 => ?_) (fun g1 => ?_)
  · skip
    try simp only [Int.toNat_natCast] at g1
    have gL := g1
    show ab_X (d + 2) mX11_image 4 [(0, .ref 0)] [.int (iI 1)] h _
    refine z_if_ne (tgt := 9) dX11_image_4 (by decide) (by decide) (fun _ => ?_) (fun c4 => absurd c4 (by decide))
    refine ab_aload_n (k := 0) dX11_image_9 rfl rfl ?_
    refine z_getP (b := 42) dX11_image_10 fX11_60 rfl rfl rfl ?_
    refine ab_aload_n (k := 0) dX11_image_13 rfl rfl ?_
    refine z_getP (b := 36) dX11_image_14 fX11_53 rfl rfl rfl ?_
    refine ab_callV (As := [.ref 36]) (rest := []) dX11_image_17 lX11_133 rfl (Nat.le_of_ble_eq_true rfl) (Nat.le_of_ble_eq_true rfl) rfl ?_
    refine c_scopy ⟨2, by decide, rfl⟩ ⟨0, by decide, rfl⟩ (by decide) (fun h1 hc1 => ?_)
    show ab_X (d + 2) mX11_image 20 [(0, .ref 0)] [] h1 _
    refine ab_aload_n (k := 0) dX11_image_20 rfl rfl ?_
    refine z_iconst dX11_image_21 ?_
    refine z_putZ dX11_image_22 fX11_139 rfl rfl (Or.inr rfl) ?_
    refine ab_aload_n (k := 0) dX11_image_25 rfl rfl ?_
    refine z_getP (b := 36) dX11_image_26 fX11_53 rfl rfl rfl ?_
    refine z_getI dX11_image_29 fX11_224 rfl (Or.inl rfl) ?_
    refine z_is (y := zv h1 36 2) (zv_zp_a (by decide)) ?_
    refine z_is (y := zv h 36 2) (hc1.1.1 36 2 (by decide)) ?_
    refine z_iret dX11_image_32 rfl ?_
    first | exact k0 (by omega) | exact k1 (by omega) _ hc1
  · skip
    try simp only [Int.toNat_natCast] at g1
    have gL := g1
    show ab_X (d + 2) mX11_image 4 [(0, .ref 0)] [.int (iI 0)] h _
    refine z_if_ne (tgt := 9) dX11_image_4 (by decide) (by decide) (fun c4 => absurd c4 (by decide)) (fun _ => ?_)
    refine z_iconst dX11_image_7 ?_
    refine z_iret dX11_image_8 rfl ?_
    first | exact k0 (by omega) | exact k1 (by omega) _ hc1
theorem c_back {d : Nat} {h : ab_H} {Q : ab_Q}  (k0 : zv h 0 10 = 0 → Q (some (.int (iI (-1)))) h) (k1 : ¬ zv h 0 10 = 0 → ∀ h1, cpR h h1 36 42 → Q (some (.int (iI (zv h1 36 2)))) (zp h1 165 2 0)) : ab_X (d + 2) mX11_back 0 (lv_args 0 [.ref 0]) [] h Q := by
  show ab_X (d + 2) mX11_back 0 [(0, .ref 0)] [] h Q
  refine ab_aload_n (k := 0) dX11_back_0 rfl rfl ?_
  refine z_getI dX11_back_1 fX11_139 rfl (Or.inr rfl) ?_
  have b1 := zv_R h 0 10
  refine z_if_ne (tgt := 9) dX11_back_4 (by decide) (by omega) (fun c4 => ?_) (fun c4 => ?_)
  · skip
    refine ab_aload_n (k := 0) dX11_back_9 rfl rfl ?_
    refine z_getP (b := 36) dX11_back_10 fX11_53 rfl rfl rfl ?_
    refine ab_aload_n (k := 0) dX11_back_13 rfl rfl ?_
    refine z_getP (b := 42) dX11_back_14 fX11_60 rfl rfl rfl ?_
    refine ab_callV (As := [.ref 42]) (rest := []) dX11_back_17 lX11_133 rfl (Nat.le_of_ble_eq_true rfl) (Nat.le_of_ble_eq_true rfl) rfl ?_
    refine c_scopy ⟨0, by decide, rfl⟩ ⟨2, by decide, rfl⟩ (by decide) (fun h1 hc1 => ?_)
    show ab_X (d + 2) mX11_back 20 [(0, .ref 0)] [] h1 _
    refine ab_aload_n (k := 0) dX11_back_20 rfl rfl ?_
    refine z_getP (b := 165) dX11_back_21 fX11_66 rfl rfl rfl ?_
    refine ab_callV (As := []) (rest := []) dX11_back_24 lX11_136 rfl (Nat.le_of_ble_eq_true rfl) (Nat.le_of_ble_eq_true rfl) rfl ?_
    refine c_forget ?_
    show ab_X (d + 2) mX11_back 27 [(0, .ref 0)] [] (zp h1 165 2 0) _
    refine ab_aload_n (k := 0) dX11_back_27 rfl rfl ?_
    refine z_getP (b := 36) dX11_back_28 fX11_53 rfl rfl rfl ?_
    refine z_getI dX11_back_31 fX11_224 rfl (Or.inl rfl) ?_
    refine z_is (y := zv h1 36 2) (zv_zp_a (by decide)) ?_
    have b2 := zv_R h1 36 2
    refine z_iret dX11_back_34 rfl ?_
    first | exact k0 (by omega) | exact k1 (by omega) _ hc1
  · skip
    refine z_iconst dX11_back_7 ?_
    refine z_iret dX11_back_8 rfl ?_
    first | exact k0 (by omega) | exact k1 (by omega) _ hc1
theorem c_undo {d : Nat} {h : ab_H} {Q : ab_Q} {x : Nat} (hx : zv h 165 1 = x) (hx2 : x < 40) (hs : 0 ≤ zv h 165 2) (k0 : zv h 165 2 = 0 → Q (some (.int (iI (-1)))) h) (k1 : ¬ zv h 165 2 = 0 → ∀ h1, cpR (zp h 165 1 (((x + 39) % 40 : Nat) : Int)) h1 36 (45 + 3 * ((x + 39) % 40)) → Q (some (.int (iI (zv h 165 2 - 1)))) (zp h1 165 2 (zv h 165 2 - 1))) : ab_X (d + 3) mX11_undo 0 (lv_args 0 [.ref 0]) [] h Q := by
  show ab_X (d + 3) mX11_undo 0 [(0, .ref 0)] [] h Q
  refine ab_aload_n (k := 0) dX11_undo_0 rfl rfl ?_
  refine z_getP (b := 165) dX11_undo_1 fX11_66 rfl rfl rfl ?_
  refine z_getI dX11_undo_4 fX11_255 rfl (Or.inl rfl) ?_
  have b1 := zv_R h 165 2
  refine z_if_ne (tgt := 12) dX11_undo_7 (by decide) (by omega) (fun c7 => ?_) (fun c7 => ?_)
  · skip
    refine ab_aload_n (k := 0) dX11_undo_12 rfl rfl ?_
    refine z_getP (b := 165) dX11_undo_13 fX11_66 rfl rfl rfl ?_
    refine ab_aload_n (k := 0) dX11_undo_16 rfl rfl ?_
    refine z_getP (b := 36) dX11_undo_17 fX11_53 rfl rfl rfl ?_
    refine ab_callV (As := [.ref 36]) (rest := []) dX11_undo_20 lX11_256 rfl (Nat.le_of_ble_eq_true rfl) (Nat.le_of_ble_eq_true rfl) rfl ?_
    refine c_restore0 hx hx2 (by omega) (fun h1 hc1 => ?_)
    show ab_X (d + 3) mX11_undo 23 [(0, .ref 0)] [] (zp h1 165 2 (zv h 165 2 - 1)) _
    refine ab_aload_n (k := 0) dX11_undo_23 rfl rfl ?_
    refine z_getP (b := 165) dX11_undo_24 fX11_66 rfl rfl rfl ?_
    refine z_getI dX11_undo_27 fX11_255 rfl (Or.inl rfl) ?_
    refine z_is (y := zv h 165 2 - 1) (zv_zp_s (by omega)) ?_
    refine z_iret dX11_undo_30 rfl ?_
    first | exact k0 (by omega) | exact k1 (by omega) _ hc1
  · skip
    refine z_iconst dX11_undo_10 ?_
    refine z_iret dX11_undo_11 rfl ?_
    first | exact k0 (by omega) | exact k1 (by omega) _ hc1
theorem c_count {d : Nat} {h : ab_H} {Q : ab_Q} {s : Int} (hs : inR s) (k0 : s = 0 → Q (some (.int (iI (zv h 15 0)))) h) (k1 : s = 1 → Q (some (.int (iI (zv h 15 3)))) h) (k2 : s = 2 → Q (some (.int (iI (zv h 0 5)))) h) (k3 : s = 3 → Q (some (.int (iI (zv h 1 1)))) h) (k4 : s = 4 → Q (some (.int (iI (zv h 36 2)))) h) (k5 : s = 5 → Q (some (.int (iI (zv h 15 1)))) h) (k6 : s = 6 → Q (some (.int (iI (zv h 15 2)))) h) (k7 : s = 7 → Q (some (.int (iI (zv h 165 2)))) h) (k8 : s = 8 → Q (some (.int (iI (zv h 36 3)))) h) (k9 : s = 9 → Q (some (.int (iI (zv h 36 4)))) h) (k10 : s = 10 → Q (some (.int (iI (zv h 36 5)))) h) (kn : ¬ (0 ≤ s ∧ s ≤ 10) → Q (some (.int (iI (-1000000)))) h) : ab_X d mX11_count 0 (lv_args 0 [.ref 0, .int (iI s)]) [] h Q := by
  show ab_X d mX11_count 0 [(0, .ref 0), (1, .int (iI s))] [] h Q
  refine ab_iload_n (k := 1) dX11_count_0 rfl rfl ?_
  by_cases q1_0 : s = 0
  · skip
    refine z_swIn (tgt := 60) dX11_count_1 (by omega) (by omega) (by omega) (by rw [q1_0]; rfl) (by decide) ?_
    refine ab_aload_n (k := 0) dX11_count_60 rfl rfl ?_
    refine z_getP (b := 15) dX11_count_61 fX11_35 rfl rfl rfl ?_
    refine z_getI dX11_count_64 fX11_286 rfl (Or.inl rfl) ?_
    have b1 := zv_R h 15 0
    refine z_iret dX11_count_67 rfl ?_
    exact k0 (by omega)
  by_cases q1_1 : s = 1
  · skip
    refine z_swIn (tgt := 68) dX11_count_1 (by omega) (by omega) (by omega) (by rw [q1_1]; rfl) (by decide) ?_
    refine ab_aload_n (k := 0) dX11_count_68 rfl rfl ?_
    refine z_getP (b := 15) dX11_count_69 fX11_35 rfl rfl rfl ?_
    refine z_getI dX11_count_72 fX11_143 rfl (Or.inl rfl) ?_
    have b2 := zv_R h 15 3
    refine z_iret dX11_count_75 rfl ?_
    exact k1 (by omega)
  by_cases q1_2 : s = 2
  · skip
    refine z_swIn (tgt := 76) dX11_count_1 (by omega) (by omega) (by omega) (by rw [q1_2]; rfl) (by decide) ?_
    refine ab_aload_n (k := 0) dX11_count_76 rfl rfl ?_
    refine z_getI dX11_count_77 fX11_146 rfl (Or.inl rfl) ?_
    have b3 := zv_R h 0 5
    refine z_iret dX11_count_80 rfl ?_
    exact k2 (by omega)
  by_cases q1_3 : s = 3
  · skip
    refine z_swIn (tgt := 81) dX11_count_1 (by omega) (by omega) (by omega) (by rw [q1_3]; rfl) (by decide) ?_
    refine ab_aload_n (k := 0) dX11_count_81 rfl rfl ?_
    refine z_getP (b := 1) dX11_count_82 fX11_10 rfl rfl rfl ?_
    refine z_getI dX11_count_85 fX11_108 rfl (Or.inl rfl) ?_
    have b4 := zv_R h 1 1
    refine z_iret dX11_count_88 rfl ?_
    exact k3 (by omega)
  by_cases q1_4 : s = 4
  · skip
    refine z_swIn (tgt := 89) dX11_count_1 (by omega) (by omega) (by omega) (by rw [q1_4]; rfl) (by decide) ?_
    refine ab_aload_n (k := 0) dX11_count_89 rfl rfl ?_
    refine z_getP (b := 36) dX11_count_90 fX11_53 rfl rfl rfl ?_
    refine z_getI dX11_count_93 fX11_224 rfl (Or.inl rfl) ?_
    have b5 := zv_R h 36 2
    refine z_iret dX11_count_96 rfl ?_
    exact k4 (by omega)
  by_cases q1_5 : s = 5
  · skip
    refine z_swIn (tgt := 97) dX11_count_1 (by omega) (by omega) (by omega) (by rw [q1_5]; rfl) (by decide) ?_
    refine ab_aload_n (k := 0) dX11_count_97 rfl rfl ?_
    refine z_getP (b := 15) dX11_count_98 fX11_35 rfl rfl rfl ?_
    refine z_getI dX11_count_101 fX11_184 rfl (Or.inl rfl) ?_
    have b6 := zv_R h 15 1
    refine z_iret dX11_count_104 rfl ?_
    exact k5 (by omega)
  by_cases q1_6 : s = 6
  · skip
    refine z_swIn (tgt := 105) dX11_count_1 (by omega) (by omega) (by omega) (by rw [q1_6]; rfl) (by decide) ?_
    refine ab_aload_n (k := 0) dX11_count_105 rfl rfl ?_
    refine z_getP (b := 15) dX11_count_106 fX11_35 rfl rfl rfl ?_
    refine z_getI dX11_count_109 fX11_221 rfl (Or.inl rfl) ?_
    have b7 := zv_R h 15 2
    refine z_iret dX11_count_112 rfl ?_
    exact k6 (by omega)
  by_cases q1_7 : s = 7
  · skip
    refine z_swIn (tgt := 113) dX11_count_1 (by omega) (by omega) (by omega) (by rw [q1_7]; rfl) (by decide) ?_
    refine ab_aload_n (k := 0) dX11_count_113 rfl rfl ?_
    refine z_getP (b := 165) dX11_count_114 fX11_66 rfl rfl rfl ?_
    refine z_getI dX11_count_117 fX11_255 rfl (Or.inl rfl) ?_
    have b8 := zv_R h 165 2
    refine z_iret dX11_count_120 rfl ?_
    exact k7 (by omega)
  by_cases q1_8 : s = 8
  · skip
    refine z_swIn (tgt := 121) dX11_count_1 (by omega) (by omega) (by omega) (by rw [q1_8]; rfl) (by decide) ?_
    refine ab_aload_n (k := 0) dX11_count_121 rfl rfl ?_
    refine z_getP (b := 36) dX11_count_122 fX11_53 rfl rfl rfl ?_
    refine z_getI dX11_count_125 fX11_248 rfl (Or.inl rfl) ?_
    have b9 := zv_R h 36 3
    refine z_iret dX11_count_128 rfl ?_
    exact k8 (by omega)
  by_cases q1_9 : s = 9
  · skip
    refine z_swIn (tgt := 129) dX11_count_1 (by omega) (by omega) (by omega) (by rw [q1_9]; rfl) (by decide) ?_
    refine ab_aload_n (k := 0) dX11_count_129 rfl rfl ?_
    refine z_getP (b := 36) dX11_count_130 fX11_53 rfl rfl rfl ?_
    refine z_getI dX11_count_133 fX11_236 rfl (Or.inl rfl) ?_
    have b10 := zv_R h 36 4
    refine z_iret dX11_count_136 rfl ?_
    exact k9 (by omega)
  by_cases q1_10 : s = 10
  · skip
    refine z_swIn (tgt := 137) dX11_count_1 (by omega) (by omega) (by omega) (by rw [q1_10]; rfl) (by decide) ?_
    refine ab_aload_n (k := 0) dX11_count_137 rfl rfl ?_
    refine z_getP (b := 36) dX11_count_138 fX11_53 rfl rfl rfl ?_
    refine z_getI dX11_count_141 fX11_245 rfl (Or.inl rfl) ?_
    have b11 := zv_R h 36 5
    refine z_iret dX11_count_144 rfl ?_
    exact k10 (by omega)
  refine z_swOut (tgt := 145) dX11_count_1 (by omega) (by omega) (by decide) ?_
  refine z_ldcw (v := (-1000000)) dX11_count_145 qX11_341 (by decide) ?_
  refine z_iret dX11_count_148 rfl ?_
  exact kn (by omega)
theorem c_within {d : Nat} {h : ab_H} {Q : ab_Q} {v a b : Int} (hv : inR v) (ha : inR a) (hb : inR b) (k1 : a ≤ v ∧ v ≤ b → Q (some (.int (iI 1))) h) (k0 : ¬ (a ≤ v ∧ v ≤ b) → Q (some (.int (iI 0))) h) : ab_X d mX11_within 0 (lv_args 0 [.int (iI v), .int (iI a), .int (iI b)]) [] h Q := by
  show ab_X d mX11_within 0 [(0, .int (iI v)), (1, .int (iI a)), (2, .int (iI b))] [] h Q
  refine ab_iload_n (k := 0) dX11_within_0 rfl rfl ?_
  refine ab_iload_n (k := 1) dX11_within_1 rfl rfl ?_
  refine z_icmp_lt (tgt := 14) dX11_within_2 (by decide) (by omega) (by omega) (fun c2 => ?_) (fun c2 => ?_)
  · skip
    refine z_iconst dX11_within_14 ?_
    refine z_zret dX11_within_15 rfl (Or.inl rfl) ?_
    first | exact k0 (by omega) | exact k1 (by omega)
  · skip
    refine ab_iload_n (k := 0) dX11_within_5 rfl rfl ?_
    refine ab_iload_n (k := 2) dX11_within_6 rfl rfl ?_
    refine z_icmp_gt (tgt := 14) dX11_within_7 (by decide) (by omega) (by omega) (fun c7 => ?_) (fun c7 => ?_)
    · skip
      refine z_iconst dX11_within_14 ?_
      refine z_zret dX11_within_15 rfl (Or.inl rfl) ?_
      first | exact k0 (by omega) | exact k1 (by omega)
    · skip
      refine z_iconst dX11_within_10 ?_
      refine ab_goto (tgt := 15) dX11_within_11 (by decide) ?_
      refine z_zret dX11_within_15 rfl (Or.inr rfl) ?_
      first | exact k0 (by omega) | exact k1 (by omega)
theorem c_canSeek {d : Nat} {h : ab_H} {Q : ab_Q} {n c e w r : Int} (h1 : inR n) (h2 : inR c) (h3 : inR e) (h4 : inR w) (h5 : inR r) (k1 : 1 ≤ n ∧ n ≤ 50 ∧ 0 ≤ c ∧ c ≤ 100 ∧ 0 ≤ e ∧ e ≤ 50 ∧ 0 ≤ w ∧ w ≤ 99 ∧ 0 ≤ r ∧ r ≤ 9999 → Q (some (.int (iI 1))) h) (k0 : ¬ (1 ≤ n ∧ n ≤ 50 ∧ 0 ≤ c ∧ c ≤ 100 ∧ 0 ≤ e ∧ e ≤ 50 ∧ 0 ≤ w ∧ w ≤ 99 ∧ 0 ≤ r ∧ r ≤ 9999) → Q (some (.int (iI 0))) h) : ab_X (d + 1) mX11_canSeek 0 (lv_args 0 [.int (iI n), .int (iI c), .int (iI e), .int (iI w), .int (iI r)]) [] h Q := by
  show ab_X (d + 1) mX11_canSeek 0 [(0, .int (iI n)), (1, .int (iI c)), (2, .int (iI e)), (3, .int (iI w)), (4, .int (iI r))] [] h Q
  refine ab_iload_n (k := 0) dX11_canSeek_0 rfl rfl ?_
  refine z_iconst dX11_canSeek_1 ?_
  refine z_bipush dX11_canSeek_2 (by decide) ?_
  refine ab_callS (As := [.int (iI n), .int (iI 1), .int (iI 50)]) (rest := []) dX11_canSeek_4 lX11_322 (Nat.le_of_ble_eq_true rfl) (Nat.le_of_ble_eq_true rfl) rfl ?_
  refine c_within (by omega) (by decide) (by decide) (fun g4 => ?_) (fun g4 => ?_)
  · skip
    try simp only [Int.toNat_natCast] at g4
    have gL := g4
    show ab_X (d + 1) mX11_canSeek 7 [(0, .int (iI n)), (1, .int (iI c)), (2, .int (iI e)), (3, .int (iI w)), (4, .int (iI r))] [.int (iI 1)] h _
    refine z_if_eq (tgt := 56) dX11_canSeek_7 (by decide) (by decide) (fun c7 => absurd c7 (by decide)) (fun _ => ?_)
    refine ab_iload_n (k := 1) dX11_canSeek_10 rfl rfl ?_
    refine z_iconst dX11_canSeek_11 ?_
    refine z_bipush dX11_canSeek_12 (by decide) ?_
    refine ab_callS (As := [.int (iI c), .int (iI 0), .int (iI 100)]) (rest := []) dX11_canSeek_14 lX11_322 (Nat.le_of_ble_eq_true rfl) (Nat.le_of_ble_eq_true rfl) rfl ?_
    refine c_within (by omega) (by decide) (by decide) (fun g14 => ?_) (fun g14 => ?_)
    · skip
      try simp only [Int.toNat_natCast] at g14
      have gL := g14
      show ab_X (d + 1) mX11_canSeek 17 [(0, .int (iI n)), (1, .int (iI c)), (2, .int (iI e)), (3, .int (iI w)), (4, .int (iI r))] [.int (iI 1)] h _
      refine z_if_eq (tgt := 56) dX11_canSeek_17 (by decide) (by decide) (fun c17 => absurd c17 (by decide)) (fun _ => ?_)
      refine ab_iload_n (k := 2) dX11_canSeek_20 rfl rfl ?_
      refine z_iconst dX11_canSeek_21 ?_
      refine z_bipush dX11_canSeek_22 (by decide) ?_
      refine ab_callS (As := [.int (iI e), .int (iI 0), .int (iI 50)]) (rest := []) dX11_canSeek_24 lX11_322 (Nat.le_of_ble_eq_true rfl) (Nat.le_of_ble_eq_true rfl) rfl ?_
      refine c_within (by omega) (by decide) (by decide) (fun g24 => ?_) (fun g24 => ?_)
      · skip
        try simp only [Int.toNat_natCast] at g24
        have gL := g24
        show ab_X (d + 1) mX11_canSeek 27 [(0, .int (iI n)), (1, .int (iI c)), (2, .int (iI e)), (3, .int (iI w)), (4, .int (iI r))] [.int (iI 1)] h _
        refine z_if_eq (tgt := 56) dX11_canSeek_27 (by decide) (by decide) (fun c27 => absurd c27 (by decide)) (fun _ => ?_)
        refine ab_iload_n (k := 3) dX11_canSeek_30 rfl rfl ?_
        refine z_iconst dX11_canSeek_31 ?_
        refine z_bipush dX11_canSeek_32 (by decide) ?_
        refine ab_callS (As := [.int (iI w), .int (iI 0), .int (iI 99)]) (rest := []) dX11_canSeek_34 lX11_322 (Nat.le_of_ble_eq_true rfl) (Nat.le_of_ble_eq_true rfl) rfl ?_
        refine c_within (by omega) (by decide) (by decide) (fun g34 => ?_) (fun g34 => ?_)
        · skip
          try simp only [Int.toNat_natCast] at g34
          have gL := g34
          show ab_X (d + 1) mX11_canSeek 37 [(0, .int (iI n)), (1, .int (iI c)), (2, .int (iI e)), (3, .int (iI w)), (4, .int (iI r))] [.int (iI 1)] h _
          refine z_if_eq (tgt := 56) dX11_canSeek_37 (by decide) (by decide) (fun c37 => absurd c37 (by decide)) (fun _ => ?_)
          refine ab_iload (k := 4) dX11_canSeek_40 rfl ?_
          refine z_iconst dX11_canSeek_42 ?_
          refine z_sipush dX11_canSeek_43 (by decide) ?_
          refine ab_callS (As := [.int (iI r), .int (iI 0), .int (iI 9999)]) (rest := []) dX11_canSeek_46 lX11_322 (Nat.le_of_ble_eq_true rfl) (Nat.le_of_ble_eq_true rfl) rfl ?_
          refine c_within (by omega) (by decide) (by decide) (fun g46 => ?_) (fun g46 => ?_)
          · skip
            try simp only [Int.toNat_natCast] at g46
            have gL := g46
            show ab_X (d + 1) mX11_canSeek 49 [(0, .int (iI n)), (1, .int (iI c)), (2, .int (iI e)), (3, .int (iI w)), (4, .int (iI r))] [.int (iI 1)] h _
            refine z_if_eq (tgt := 56) dX11_canSeek_49 (by decide) (by decide) (fun c49 => absurd c49 (by decide)) (fun _ => ?_)
            refine z_iconst dX11_canSeek_52 ?_
            refine ab_goto (tgt := 57) dX11_canSeek_53 (by decide) ?_
            refine z_zret dX11_canSeek_57 rfl (Or.inr rfl) ?_
            first | exact k1 (by omega) | exact k0 (by omega)
          · skip
            try simp only [Int.toNat_natCast] at g46
            have gL := g46
            show ab_X (d + 1) mX11_canSeek 49 [(0, .int (iI n)), (1, .int (iI c)), (2, .int (iI e)), (3, .int (iI w)), (4, .int (iI r))] [.int (iI 0)] h _
            refine z_if_eq (tgt := 56) dX11_canSeek_49 (by decide) (by decide) (fun _ => ?_) (fun c49 => absurd c49 (by decide))
            refine z_iconst dX11_canSeek_56 ?_
            refine z_zret dX11_canSeek_57 rfl (Or.inl rfl) ?_
            first | exact k1 (by omega) | exact k0 (by omega)
        · skip
          try simp only [Int.toNat_natCast] at g34
          have gL := g34
          show ab_X (d + 1) mX11_canSeek 37 [(0, .int (iI n)), (1, .int (iI c)), (2, .int (iI e)), (3, .int (iI w)), (4, .int (iI r))] [.int (iI 0)] h _
          refine z_if_eq (tgt := 56) dX11_canSeek_37 (by decide) (by decide) (fun _ => ?_) (fun c37 => absurd c37 (by decide))
          refine z_iconst dX11_canSeek_56 ?_
          refine z_zret dX11_canSeek_57 rfl (Or.inl rfl) ?_
          first | exact k1 (by omega) | exact k0 (by omega)
      · skip
        try simp only [Int.toNat_natCast] at g24
        have gL := g24
        show ab_X (d + 1) mX11_canSeek 27 [(0, .int (iI n)), (1, .int (iI c)), (2, .int (iI e)), (3, .int (iI w)), (4, .int (iI r))] [.int (iI 0)] h _
        refine z_if_eq (tgt := 56) dX11_canSeek_27 (by decide) (by decide) (fun _ => ?_) (fun c27 => absurd c27 (by decide))
        refine z_iconst dX11_canSeek_56 ?_
        refine z_zret dX11_canSeek_57 rfl (Or.inl rfl) ?_
        first | exact k1 (by omega) | exact k0 (by omega)
    · skip
      try simp only [Int.toNat_natCast] at g14
      have gL := g14
      show ab_X (d + 1) mX11_canSeek 17 [(0, .int (iI n)), (1, .int (iI c)), (2, .int (iI e)), (3, .int (iI w)), (4, .int (iI r))] [.int (iI 0)] h _
      refine z_if_eq (tgt := 56) dX11_canSeek_17 (by decide) (by decide) (fun _ => ?_) (fun c17 => absurd c17 (by decide))
      refine z_iconst dX11_canSeek_56 ?_
      refine z_zret dX11_canSeek_57 rfl (Or.inl rfl) ?_
      first | exact k1 (by omega) | exact k0 (by omega)
  · skip
    try simp only [Int.toNat_natCast] at g4
    have gL := g4
    show ab_X (d + 1) mX11_canSeek 7 [(0, .int (iI n)), (1, .int (iI c)), (2, .int (iI e)), (3, .int (iI w)), (4, .int (iI r))] [.int (iI 0)] h _
    refine z_if_eq (tgt := 56) dX11_canSeek_7 (by decide) (by decide) (fun _ => ?_) (fun c7 => absurd c7 (by decide))
    refine z_iconst dX11_canSeek_56 ?_
    refine z_zret dX11_canSeek_57 rfl (Or.inl rfl) ?_
    first | exact k1 (by omega) | exact k0 (by omega)
/-- going by: what it costs from place p on, and which is taken first, begun behind the last -/
def sk1 (w e p : Int) : Int := 1000 * w * (if 0 ≤ p - e then p - e else -(p - e))
def skF (c e w : Int) : Nat → Int → Int → Int × Int
  | 0, b, f => (b, f)
  | p + 1, b, f => skF c e w p (Int.tdiv (c * min (sk1 w e ((p + 1 : Nat) : Int)) b + (100 - c) * b) 100) (if sk1 w e ((p + 1 : Nat) : Int) ≤ b then ((p + 1 : Nat) : Int) else f)
theorem sk1_b {w e : Int} {p : Int} (hw : 0 ≤ w ∧ w ≤ 99) (he : 0 ≤ e ∧ e ≤ 50) (hp : 0 ≤ p ∧ p ≤ 50) : 0 ≤ sk1 w e p ∧ sk1 w e p ≤ 4950000 := by
  unfold sk1
  generalize hq : (if 0 ≤ p - e then p - e else -(p - e)) = q
  have hqb : 0 ≤ q ∧ q ≤ 50 := by split at hq <;> omega
  have h1 : 0 ≤ 1000 * w * q := Int.mul_nonneg (by omega) hqb.1
  have h2 : 1000 * w * q ≤ 99000 * 50 := Int.le_trans (Int.mul_le_mul_of_nonneg_right (by omega) hqb.1) (Int.mul_le_mul_of_nonneg_left hqb.2 (by decide))
  omega
theorem skm_b {c x b : Int} (hc : 0 ≤ c ∧ c ≤ 100) (hx : 0 ≤ x) (hb : 0 ≤ b ∧ b ≤ 9999000) (hxb : x ≤ b) : 0 ≤ c * x + (100 - c) * b ∧ c * x + (100 - c) * b ≤ 999900000 ∧ 0 ≤ c * x ∧ c * x ≤ 999900000 ∧ 0 ≤ (100 - c) * b ∧ (100 - c) * b ≤ 999900000 := by
  have h1 : 0 ≤ c * x := Int.mul_nonneg hc.1 hx
  have h2 : 0 ≤ (100 - c) * b := Int.mul_nonneg (by omega) hb.1
  have h3 : c * x ≤ c * b := Int.mul_le_mul_of_nonneg_left hxb hc.1
  have h4 : c * b + (100 - c) * b = 100 * b := by rw [← Int.add_mul]; congr 1; omega
  omega
theorem tdiv100 {x : Int} (h : 0 ≤ x ∧ x ≤ 999900000) : 0 ≤ Int.tdiv x 100 ∧ Int.tdiv x 100 ≤ 9999000 := by
  rw [Int.tdiv_eq_ediv_of_nonneg h.1]; omega
theorem skF_s (c e w : Int) (p : Nat) (b f : Int) : skF c e w (p + 1) b f = skF c e w p (Int.tdiv (c * min (sk1 w e ((p + 1 : Nat) : Int)) b + (100 - c) * b) 100) (if sk1 w e ((p + 1 : Nat) : Int) ≤ b then ((p + 1 : Nat) : Int) else f) := rfl
theorem lp_driven {d : Nat} {Q : ab_Q} {h0 : ab_H} {n : Nat} {t c e w r : Int} (hk : 1 ≤ (n : Int) ∧ (n : Int) ≤ 50 ∧ 0 ≤ c ∧ c ≤ 100 ∧ 0 ≤ e ∧ e ≤ 50 ∧ 0 ≤ w ∧ w ≤ 99 ∧ 0 ≤ r ∧ r ≤ 9999) (ht : t = 0 ∨ t = 1) (K : Q (some (.int (iI (if t = 0 then (skF c e w n (1000 * r) (-1)).1 else (skF c e w n (1000 * r) (-1)).2)))) h0) : ∀ (nn : Nat) (p : Nat) (b : Int) (f : Int) (h : ab_H), p = nn → (h = h0) → (p ≤ n) → (0 ≤ b ∧ b ≤ 9999000) → (-1 ≤ f ∧ f ≤ 50) → (skF c e w p b f = (skF c e w n (1000 * r) (-1))) → ab_X (d + 1) mX11_driven 14 [(0, .int (iI t)), (1, .int (iI (n : Int))), (2, .int (iI c)), (3, .int (iI e)), (4, .int (iI w)), (5, .int (iI r)), (6, .int (iI f)), (7, .int (iI b)), (8, .int (iI (p : Int)))] [] h Q := by
  intro nn
  induction nn using Nat.strongRecOn with
  | ind nn ih =>
  intro p b f h hnn hh hp hb hf he
  subst hh
  refine ab_iload (k := 8) dX11_driven_14 rfl ?_
  refine z_iconst dX11_driven_16 ?_
  refine z_icmp_lt (tgt := 75) dX11_driven_17 (by decide) (by omega) (by decide) (fun c17 => ?_) (fun c17 => ?_)
  · skip
    refine ab_iload_n (k := 0) dX11_driven_75 rfl rfl ?_
    refine z_if_eq (tgt := 84) dX11_driven_76 (by decide) (by omega) (fun c76 => ?_) (fun c76 => ?_)
    · skip
      refine ab_iload (k := 7) dX11_driven_84 rfl ?_
      refine z_iret dX11_driven_86 rfl ?_
      have e9 : p = 0 := by omega
      subst e9
      rw [if_pos c76, ← he] at K
      exact K
    · skip
      refine ab_iload (k := 6) dX11_driven_79 rfl ?_
      refine ab_goto (tgt := 86) dX11_driven_81 (by decide) ?_
      refine z_iret dX11_driven_86 rfl ?_
      have e9 : p = 0 := by omega
      subst e9
      rw [if_neg c76, ← he] at K
      exact K
  · skip
    refine z_sipush dX11_driven_20 (by decide) ?_
    refine ab_iload (k := 4) dX11_driven_23 rfl ?_
    refine z_imul dX11_driven_25 ?_
    refine ab_iload (k := 8) dX11_driven_26 rfl ?_
    refine ab_iload_n (k := 3) dX11_driven_28 rfl rfl ?_
    refine z_isub dX11_driven_29 ?_
    refine z_mabs dX11_driven_30 lX11_326 (Nat.le_of_ble_eq_true rfl) (by omega) ?_
    refine z_imul dX11_driven_33 ?_
    refine z_is (y := sk1 w e (p : Int)) rfl ?_
    refine ab_istore (ls' := [(9, .int (iI (sk1 w e (p : Int)))), (0, .int (iI t)), (1, .int (iI (n : Int))), (2, .int (iI c)), (3, .int (iI e)), (4, .int (iI w)), (5, .int (iI r)), (6, .int (iI f)), (7, .int (iI b)), (8, .int (iI (p : Int)))]) dX11_driven_34 (by decide) rfl ?_
    have hs1 := sk1_b (w := w) (e := e) (p := (p : Int)) (by omega) (by omega) (by omega)
    refine ab_iload (k := 0) dX11_driven_36 rfl ?_
    refine ab_iload (k := 8) dX11_driven_38 rfl ?_
    refine z_icmp_gt (tgt := 47) dX11_driven_40 (by decide) (by omega) (by omega) (fun c40 => ?_) (fun c40 => ?_)
    · skip
      refine ab_iload_n (k := 3) dX11_driven_47 rfl rfl ?_
      refine ab_iload (k := 0) dX11_driven_48 rfl ?_
      refine ab_iload (k := 8) dX11_driven_50 rfl ?_
      refine z_mmin dX11_driven_52 lX11_331 (Nat.le_of_ble_eq_true rfl) (by omega) (by omega) ?_
      have hs2 := skm_b (c := c) (x := min (sk1 w e (p : Int)) b) (b := b) (by omega) (by omega) hb (by omega)
      refine z_imul dX11_driven_55 ?_
      refine z_bipush dX11_driven_56 (by decide) ?_
      refine ab_iload_n (k := 3) dX11_driven_58 rfl rfl ?_
      refine z_isub dX11_driven_59 ?_
      refine ab_iload (k := 8) dX11_driven_60 rfl ?_
      refine z_imul dX11_driven_62 ?_
      refine z_iadd dX11_driven_63 ?_
      refine z_bipush dX11_driven_64 (by decide) ?_
      refine z_idiv dX11_driven_66 (by omega) (by decide) (by decide) ?_
      refine ab_istore (ls' := [(7, .int (iI (Int.tdiv ((c * (min (sk1 w e (p : Int)) b)) + ((100 - c) * b)) 100))), (9, .int (iI (sk1 w e (p : Int)))), (0, .int (iI t)), (1, .int (iI (n : Int))), (2, .int (iI c)), (3, .int (iI e)), (4, .int (iI w)), (5, .int (iI r)), (6, .int (iI f)), (8, .int (iI (p : Int)))]) dX11_driven_67 (by decide) rfl ?_
      refine z_iinc (k := 9) (v := (p : Int) + (-1)) (ls' := [(8, .int (iI ((p : Int) + (-1)))), (7, .int (iI (Int.tdiv ((c * (min (sk1 w e (p : Int)) b)) + ((100 - c) * b)) 100))), (9, .int (iI (sk1 w e (p : Int)))), (0, .int (iI t)), (1, .int (iI (n : Int))), (2, .int (iI c)), (3, .int (iI e)), (4, .int (iI w)), (5, .int (iI r)), (6, .int (iI f))]) dX11_driven_69 rfl rfl (by decide) rfl ?_
      refine ab_goto (tgt := 14) dX11_driven_72 (by decide) ?_
      refine ab_sub (ls' := [(0, .int (iI t)), (1, .int (iI (n : Int))), (2, .int (iI c)), (3, .int (iI e)), (4, .int (iI w)), (5, .int (iI r)), (6, .int (iI f)), (7, .int (iI (Int.tdiv ((c * (min (sk1 w e (p : Int)) b)) + ((100 - c) * b)) 100))), (8, .int (iI ((p : Int) + (-1))))]) (ks := [3, 4, 5, 6, 7, 8, 9, 1, 0]) rfl ?_
      obtain ⟨q, rfl⟩ : ∃ z : Nat, p = z + 1 := ⟨p - 1, by omega⟩
      have e9 : (((q + 1 : Nat) : Int) + (-1)) = (q : Int) := by omega
      rw [e9]
      exact ih _ (by omega) q _ _ _ rfl rfl (by omega) (tdiv100 ⟨hs2.1, hs2.2.1⟩) hf (by rw [← he, skF_s, if_neg (by omega)])
    · skip
      refine ab_iload (k := 9) dX11_driven_43 rfl ?_
      refine ab_istore (ls' := [(6, .int (iI (p : Int))), (9, .int (iI (sk1 w e (p : Int)))), (0, .int (iI t)), (1, .int (iI (n : Int))), (2, .int (iI c)), (3, .int (iI e)), (4, .int (iI w)), (5, .int (iI r)), (7, .int (iI b)), (8, .int (iI (p : Int)))]) dX11_driven_45 (by decide) rfl ?_
      refine ab_iload_n (k := 4) dX11_driven_47 rfl rfl ?_
      refine ab_iload (k := 1) dX11_driven_48 rfl ?_
      refine ab_iload (k := 8) dX11_driven_50 rfl ?_
      refine z_mmin dX11_driven_52 lX11_331 (Nat.le_of_ble_eq_true rfl) (by omega) (by omega) ?_
      have hs2 := skm_b (c := c) (x := min (sk1 w e (p : Int)) b) (b := b) (by omega) (by omega) hb (by omega)
      refine z_imul dX11_driven_55 ?_
      refine z_bipush dX11_driven_56 (by decide) ?_
      refine ab_iload_n (k := 4) dX11_driven_58 rfl rfl ?_
      refine z_isub dX11_driven_59 ?_
      refine ab_iload (k := 8) dX11_driven_60 rfl ?_
      refine z_imul dX11_driven_62 ?_
      refine z_iadd dX11_driven_63 ?_
      refine z_bipush dX11_driven_64 (by decide) ?_
      refine z_idiv dX11_driven_66 (by omega) (by decide) (by decide) ?_
      refine ab_istore (ls' := [(7, .int (iI (Int.tdiv ((c * (min (sk1 w e (p : Int)) b)) + ((100 - c) * b)) 100))), (6, .int (iI (p : Int))), (9, .int (iI (sk1 w e (p : Int)))), (0, .int (iI t)), (1, .int (iI (n : Int))), (2, .int (iI c)), (3, .int (iI e)), (4, .int (iI w)), (5, .int (iI r)), (8, .int (iI (p : Int)))]) dX11_driven_67 (by decide) rfl ?_
      refine z_iinc (k := 9) (v := (p : Int) + (-1)) (ls' := [(8, .int (iI ((p : Int) + (-1)))), (7, .int (iI (Int.tdiv ((c * (min (sk1 w e (p : Int)) b)) + ((100 - c) * b)) 100))), (6, .int (iI (p : Int))), (9, .int (iI (sk1 w e (p : Int)))), (0, .int (iI t)), (1, .int (iI (n : Int))), (2, .int (iI c)), (3, .int (iI e)), (4, .int (iI w)), (5, .int (iI r))]) dX11_driven_69 rfl rfl (by decide) rfl ?_
      refine ab_goto (tgt := 14) dX11_driven_72 (by decide) ?_
      refine ab_sub (ls' := [(0, .int (iI t)), (1, .int (iI (n : Int))), (2, .int (iI c)), (3, .int (iI e)), (4, .int (iI w)), (5, .int (iI r)), (6, .int (iI (p : Int))), (7, .int (iI (Int.tdiv ((c * (min (sk1 w e (p : Int)) b)) + ((100 - c) * b)) 100))), (8, .int (iI ((p : Int) + (-1))))]) (ks := [4, 5, 6, 7, 8, 9, 2, 1, 0]) rfl ?_
      obtain ⟨q, rfl⟩ : ∃ z : Nat, p = z + 1 := ⟨p - 1, by omega⟩
      have e9 : (((q + 1 : Nat) : Int) + (-1)) = (q : Int) := by omega
      rw [e9]
      exact ih _ (by omega) q _ _ _ rfl rfl (by omega) (tdiv100 ⟨hs2.1, hs2.2.1⟩) (by omega) (by rw [← he, skF_s, if_pos (by omega)])
theorem c_driven {d : Nat} {h : ab_H} {Q : ab_Q} {n : Nat} {t c e w r : Int} (hk : 1 ≤ (n : Int) ∧ (n : Int) ≤ 50 ∧ 0 ≤ c ∧ c ≤ 100 ∧ 0 ≤ e ∧ e ≤ 50 ∧ 0 ≤ w ∧ w ≤ 99 ∧ 0 ≤ r ∧ r ≤ 9999) (ht : t = 0 ∨ t = 1) (K : Q (some (.int (iI (if t = 0 then (skF c e w n (1000 * r) (-1)).1 else (skF c e w n (1000 * r) (-1)).2)))) h) : ab_X (d + 1) mX11_driven 0 (lv_args 0 [.int (iI t), .int (iI (n : Int)), .int (iI c), .int (iI e), .int (iI w), .int (iI r)]) [] h Q := by
  show ab_X (d + 1) mX11_driven 0 [(0, .int (iI t)), (1, .int (iI (n : Int))), (2, .int (iI c)), (3, .int (iI e)), (4, .int (iI w)), (5, .int (iI r))] [] h Q
  refine z_iconst dX11_driven_0 ?_
  refine ab_istore (ls' := [(6, .int (iI (-1))), (0, .int (iI t)), (1, .int (iI (n : Int))), (2, .int (iI c)), (3, .int (iI e)), (4, .int (iI w)), (5, .int (iI r))]) dX11_driven_1 (by decide) rfl ?_
  refine z_sipush dX11_driven_3 (by decide) ?_
  refine ab_iload (k := 6) dX11_driven_6 rfl ?_
  refine z_imul dX11_driven_8 ?_
  refine ab_istore (ls' := [(7, .int (iI (1000 * r))), (6, .int (iI (-1))), (0, .int (iI t)), (1, .int (iI (n : Int))), (2, .int (iI c)), (3, .int (iI e)), (4, .int (iI w)), (5, .int (iI r))]) dX11_driven_9 (by decide) rfl ?_
  refine ab_iload_n (k := 3) dX11_driven_11 rfl rfl ?_
  refine ab_istore (ls' := [(8, .int (iI (n : Int))), (7, .int (iI (1000 * r))), (6, .int (iI (-1))), (0, .int (iI t)), (1, .int (iI (n : Int))), (2, .int (iI c)), (3, .int (iI e)), (4, .int (iI w)), (5, .int (iI r))]) dX11_driven_12 (by decide) rfl ?_
  refine ab_sub (ls' := [(0, .int (iI t)), (1, .int (iI (n : Int))), (2, .int (iI c)), (3, .int (iI e)), (4, .int (iI w)), (5, .int (iI r)), (6, .int (iI (-1))), (7, .int (iI (1000 * r))), (8, .int (iI (n : Int)))]) (ks := [3, 4, 5, 6, 7, 8, 2, 1, 0]) rfl ?_
  exact lp_driven hk ht K _ n _ _ h rfl rfl (Nat.le_refl n) (by omega) (by omega) rfl
theorem c_drive0 {d : Nat} {h : ab_H} {Q : ab_Q} {n c e w r : Int} (hk : 1 ≤ n ∧ n ≤ 50 ∧ 0 ≤ c ∧ c ≤ 100 ∧ 0 ≤ e ∧ e ≤ 50 ∧ 0 ≤ w ∧ w ≤ 99 ∧ 0 ≤ r ∧ r ≤ 9999) (K : Q (some (.int (iI (skF c e w n.toNat (1000 * r) (-1)).1))) h) : ab_X (d + 1) mX11_driven 0 (lv_args 0 [.int (iI 0), .int (iI n), .int (iI c), .int (iI e), .int (iI w), .int (iI r)]) [] h Q := by
  obtain ⟨m, rfl⟩ : ∃ m : Nat, n = m := ⟨n.toNat, by omega⟩
  rw [Int.toNat_natCast] at K
  exact c_driven hk (Or.inl rfl) (by rw [if_pos rfl]; exact K)
theorem c_drive1 {d : Nat} {h : ab_H} {Q : ab_Q} {n c e w r : Int} (hk : 1 ≤ n ∧ n ≤ 50 ∧ 0 ≤ c ∧ c ≤ 100 ∧ 0 ≤ e ∧ e ≤ 50 ∧ 0 ≤ w ∧ w ≤ 99 ∧ 0 ≤ r ∧ r ≤ 9999) (K : Q (some (.int (iI (skF c e w n.toNat (1000 * r) (-1)).2))) h) : ab_X (d + 1) mX11_driven 0 (lv_args 0 [.int (iI 1), .int (iI n), .int (iI c), .int (iI e), .int (iI w), .int (iI r)]) [] h Q := by
  obtain ⟨m, rfl⟩ : ∃ m : Nat, n = m := ⟨n.toNat, by omega⟩
  rw [Int.toNat_natCast] at K
  exact c_driven hk (Or.inr rfl) (by rw [if_neg (by decide)]; exact K)
theorem c_seek {d : Nat} {h : ab_H} {Q : ab_Q} {n c e w r : Int} (h1 : inR n) (h2 : inR c) (h3 : inR e) (h4 : inR w) (h5 : inR r) (k1 : 1 ≤ n ∧ n ≤ 50 ∧ 0 ≤ c ∧ c ≤ 100 ∧ 0 ≤ e ∧ e ≤ 50 ∧ 0 ≤ w ∧ w ≤ 99 ∧ 0 ≤ r ∧ r ≤ 9999 → Q (some (.int (iI ((skF c e w n.toNat (1000 * r) (-1)).1)))) h) (k0 : ¬ (1 ≤ n ∧ n ≤ 50 ∧ 0 ≤ c ∧ c ≤ 100 ∧ 0 ≤ e ∧ e ≤ 50 ∧ 0 ≤ w ∧ w ≤ 99 ∧ 0 ≤ r ∧ r ≤ 9999) → Q (some (.int (iI (-1)))) h) : ab_X (d + 2) mX11_seek 0 (lv_args 0 [.ref 0, .int (iI n), .int (iI c), .int (iI e), .int (iI w), .int (iI r)]) [] h Q := by
  show ab_X (d + 2) mX11_seek 0 [(0, .ref 0), (1, .int (iI n)), (2, .int (iI c)), (3, .int (iI e)), (4, .int (iI w)), (5, .int (iI r))] [] h Q
  refine ab_iload_n (k := 1) dX11_seek_0 rfl rfl ?_
  refine ab_iload_n (k := 2) dX11_seek_1 rfl rfl ?_
  refine ab_iload_n (k := 3) dX11_seek_2 rfl rfl ?_
  refine ab_iload (k := 4) dX11_seek_3 rfl ?_
  refine ab_iload (k := 5) dX11_seek_5 rfl ?_
  refine ab_callS (As := [.int (iI n), .int (iI c), .int (iI e), .int (iI w), .int (iI r)]) (rest := []) dX11_seek_7 lX11_314 (Nat.le_of_ble_eq_true rfl) (Nat.le_of_ble_eq_true rfl) rfl ?_
  refine c_canSeek h1 h2 h3 h4 h5 (fun g7 => ?_) (fun g7 => ?_)
  · skip
    try simp only [Int.toNat_natCast] at g7
    have gL := g7
    show ab_X (d + 2) mX11_seek 10 [(0, .ref 0), (1, .int (iI n)), (2, .int (iI c)), (3, .int (iI e)), (4, .int (iI w)), (5, .int (iI r))] [.int (iI 1)] h _
    refine z_if_eq (tgt := 27) dX11_seek_10 (by decide) (by decide) (fun c10 => absurd c10 (by decide)) (fun _ => ?_)
    refine z_iconst dX11_seek_13 ?_
    refine ab_iload_n (k := 1) dX11_seek_14 rfl rfl ?_
    refine ab_iload_n (k := 2) dX11_seek_15 rfl rfl ?_
    refine ab_iload_n (k := 3) dX11_seek_16 rfl rfl ?_
    refine ab_iload (k := 4) dX11_seek_17 rfl ?_
    refine ab_iload (k := 5) dX11_seek_19 rfl ?_
    refine ab_callS (As := [.int (iI 0), .int (iI n), .int (iI c), .int (iI e), .int (iI w), .int (iI r)]) (rest := []) dX11_seek_21 lX11_318 (Nat.le_of_ble_eq_true rfl) (Nat.le_of_ble_eq_true rfl) rfl ?_
    refine c_drive0 (by omega) ?_
    show ab_X (d + 2) mX11_seek 24 [(0, .ref 0), (1, .int (iI n)), (2, .int (iI c)), (3, .int (iI e)), (4, .int (iI w)), (5, .int (iI r))] [.int (iI ((skF c e w n.toNat (1000 * r) (-1)).1))] h _
    refine ab_goto (tgt := 28) dX11_seek_24 (by decide) ?_
    refine z_iret dX11_seek_28 rfl ?_
    first | exact k1 (by omega) | exact k0 (by omega)
  · skip
    try simp only [Int.toNat_natCast] at g7
    have gL := g7
    show ab_X (d + 2) mX11_seek 10 [(0, .ref 0), (1, .int (iI n)), (2, .int (iI c)), (3, .int (iI e)), (4, .int (iI w)), (5, .int (iI r))] [.int (iI 0)] h _
    refine z_if_eq (tgt := 27) dX11_seek_10 (by decide) (by decide) (fun _ => ?_) (fun c10 => absurd c10 (by decide))
    refine z_iconst dX11_seek_27 ?_
    refine z_iret dX11_seek_28 rfl ?_
    first | exact k1 (by omega) | exact k0 (by omega)
theorem c_take {d : Nat} {h : ab_H} {Q : ab_Q} {n c e w r : Int} (h1 : inR n) (h2 : inR c) (h3 : inR e) (h4 : inR w) (h5 : inR r) (k1 : 1 ≤ n ∧ n ≤ 50 ∧ 0 ≤ c ∧ c ≤ 100 ∧ 0 ≤ e ∧ e ≤ 50 ∧ 0 ≤ w ∧ w ≤ 99 ∧ 0 ≤ r ∧ r ≤ 9999 → Q (some (.int (iI ((skF c e w n.toNat (1000 * r) (-1)).2)))) h) (k0 : ¬ (1 ≤ n ∧ n ≤ 50 ∧ 0 ≤ c ∧ c ≤ 100 ∧ 0 ≤ e ∧ e ≤ 50 ∧ 0 ≤ w ∧ w ≤ 99 ∧ 0 ≤ r ∧ r ≤ 9999) → Q (some (.int (iI (-1)))) h) : ab_X (d + 2) mX11_take 0 (lv_args 0 [.ref 0, .int (iI n), .int (iI c), .int (iI e), .int (iI w), .int (iI r)]) [] h Q := by
  show ab_X (d + 2) mX11_take 0 [(0, .ref 0), (1, .int (iI n)), (2, .int (iI c)), (3, .int (iI e)), (4, .int (iI w)), (5, .int (iI r))] [] h Q
  refine ab_iload_n (k := 1) dX11_take_0 rfl rfl ?_
  refine ab_iload_n (k := 2) dX11_take_1 rfl rfl ?_
  refine ab_iload_n (k := 3) dX11_take_2 rfl rfl ?_
  refine ab_iload (k := 4) dX11_take_3 rfl ?_
  refine ab_iload (k := 5) dX11_take_5 rfl ?_
  refine ab_callS (As := [.int (iI n), .int (iI c), .int (iI e), .int (iI w), .int (iI r)]) (rest := []) dX11_take_7 lX11_314 (Nat.le_of_ble_eq_true rfl) (Nat.le_of_ble_eq_true rfl) rfl ?_
  refine c_canSeek h1 h2 h3 h4 h5 (fun g7 => ?_) (fun g7 => ?_)
  · skip
    try simp only [Int.toNat_natCast] at g7
    have gL := g7
    show ab_X (d + 2) mX11_take 10 [(0, .ref 0), (1, .int (iI n)), (2, .int (iI c)), (3, .int (iI e)), (4, .int (iI w)), (5, .int (iI r))] [.int (iI 1)] h _
    refine z_if_eq (tgt := 27) dX11_take_10 (by decide) (by decide) (fun c10 => absurd c10 (by decide)) (fun _ => ?_)
    refine z_iconst dX11_take_13 ?_
    refine ab_iload_n (k := 1) dX11_take_14 rfl rfl ?_
    refine ab_iload_n (k := 2) dX11_take_15 rfl rfl ?_
    refine ab_iload_n (k := 3) dX11_take_16 rfl rfl ?_
    refine ab_iload (k := 4) dX11_take_17 rfl ?_
    refine ab_iload (k := 5) dX11_take_19 rfl ?_
    refine ab_callS (As := [.int (iI 1), .int (iI n), .int (iI c), .int (iI e), .int (iI w), .int (iI r)]) (rest := []) dX11_take_21 lX11_318 (Nat.le_of_ble_eq_true rfl) (Nat.le_of_ble_eq_true rfl) rfl ?_
    refine c_drive1 (by omega) ?_
    show ab_X (d + 2) mX11_take 24 [(0, .ref 0), (1, .int (iI n)), (2, .int (iI c)), (3, .int (iI e)), (4, .int (iI w)), (5, .int (iI r))] [.int (iI ((skF c e w n.toNat (1000 * r) (-1)).2))] h _
    refine ab_goto (tgt := 28) dX11_take_24 (by decide) ?_
    refine z_iret dX11_take_28 rfl ?_
    first | exact k1 (by omega) | exact k0 (by omega)
  · skip
    try simp only [Int.toNat_natCast] at g7
    have gL := g7
    show ab_X (d + 2) mX11_take 10 [(0, .ref 0), (1, .int (iI n)), (2, .int (iI c)), (3, .int (iI e)), (4, .int (iI w)), (5, .int (iI r))] [.int (iI 0)] h _
    refine z_if_eq (tgt := 27) dX11_take_10 (by decide) (by decide) (fun _ => ?_) (fun c10 => absurd c10 (by decide))
    refine z_iconst dX11_take_27 ?_
    refine z_iret dX11_take_28 rfl ?_
    first | exact k1 (by omega) | exact k0 (by omega)
