/-! CONTRACTS OF THE CLASS: the plan's and the street's queries -/
/-- nothing outside the places of l has changed -/
def sm (l : List Nat) (h h' : ab_H) : Prop := (∀ b j, b ∉ l → zv h' b j = zv h b j) ∧ (∀ b j, b ∉ l → wv h' b j = wv h b j) ∧ h'.2.2 = h.2.2
theorem sm.refl {l : List Nat} {h : ab_H} : sm l h h := ⟨fun _ _ _ => rfl, fun _ _ _ => rfl, rfl⟩
theorem sm.trans {l : List Nat} {h h' h'' : ab_H} (a : sm l h h') (b : sm l h' h'') : sm l h h'' := ⟨fun c j hc => (b.1 c j hc).trans (a.1 c j hc), fun c j hc => (b.2.1 c j hc).trans (a.2.1 c j hc), b.2.2.trans a.2.2⟩
theorem sm.mono {l l' : List Nat} {h h' : ab_H} (a : sm l h h') (hl : ∀ x ∈ l, x ∈ l') : sm l' h h' := ⟨fun c j hc => a.1 c j (fun q => hc (hl c q)), fun c j hc => a.2.1 c j (fun q => hc (hl c q)), a.2.2⟩
theorem sm_zp {l : List Nat} {h : ab_H} {a k : Nat} {z : Int} (ha : a ∈ l) : sm l h (zp h a k z) := ⟨fun b j hb => zv_zp_a (fun e => hb (e ▸ ha)), fun _ _ _ => rfl, rfl⟩
theorem sm_wp {l : List Nat} {h : ab_H} {a k : Nat} {z : Int} (ha : a ∈ l) : sm l h (wp h a k z) := ⟨fun _ _ _ => rfl, fun b j hb => wv_wp_ne (fun e => hb (e.1 ▸ ha)), rfl⟩
theorem c_hasSort {d : Nat} {h : ab_H} {Q : ab_Q} {s : Int} (hs : inR s) (k1 : 0 ≤ s ∧ s < zv h 15 3 → Q (some (.int (iI 1))) h) (k0 : ¬ (0 ≤ s ∧ s < zv h 15 3) → Q (some (.int (iI 0))) h) : ab_X d mX6_hasSort 0 (lv_args 0 [.ref 15, .int (iI s)]) [] h Q := by
  show ab_X d mX6_hasSort 0 [(0, .ref 15), (1, .int (iI s))] [] h Q
  refine ab_iload_n (k := 1) dX6_hasSort_0 rfl rfl ?_
  refine z_if_lt (tgt := 16) dX6_hasSort_1 (by decide) (by omega) (fun c1 => ?_) (fun c1 => ?_)
  · skip
    refine z_iconst dX6_hasSort_16 ?_
    refine z_zret dX6_hasSort_17 rfl (Or.inl rfl) ?_
    exact k0 (by omega)
  · skip
    refine ab_iload_n (k := 1) dX6_hasSort_4 rfl rfl ?_
    refine ab_aload_n (k := 0) dX6_hasSort_5 rfl rfl ?_
    refine z_getI dX6_hasSort_6 fX6_22 rfl (Or.inl rfl) ?_
    have b1 := zv_R h 15 3
    refine z_icmp_ge (tgt := 16) dX6_hasSort_9 (by decide) (by omega) (by omega) (fun c9 => ?_) (fun c9 => ?_)
    · skip
      refine z_iconst dX6_hasSort_16 ?_
      refine z_zret dX6_hasSort_17 rfl (Or.inl rfl) ?_
      exact k0 (by omega)
    · skip
      refine z_iconst dX6_hasSort_12 ?_
      refine ab_goto (tgt := 17) dX6_hasSort_13 (by decide) ?_
      refine z_zret dX6_hasSort_17 rfl (Or.inr rfl) ?_
      exact k1 (by omega)
theorem c_hasYard {d : Nat} {h : ab_H} {Q : ab_Q} {s : Int} (hs : inR s) (k1 : 0 ≤ s ∧ s < zv h 15 0 → Q (some (.int (iI 1))) h) (k0 : ¬ (0 ≤ s ∧ s < zv h 15 0) → Q (some (.int (iI 0))) h) : ab_X d mX6_hasYard 0 (lv_args 0 [.ref 15, .int (iI s)]) [] h Q := by
  show ab_X d mX6_hasYard 0 [(0, .ref 15), (1, .int (iI s))] [] h Q
  refine ab_iload_n (k := 1) dX6_hasYard_0 rfl rfl ?_
  refine z_if_lt (tgt := 16) dX6_hasYard_1 (by decide) (by omega) (fun c1 => ?_) (fun c1 => ?_)
  · skip
    refine z_iconst dX6_hasYard_16 ?_
    refine z_zret dX6_hasYard_17 rfl (Or.inl rfl) ?_
    exact k0 (by omega)
  · skip
    refine ab_iload_n (k := 1) dX6_hasYard_4 rfl rfl ?_
    refine ab_aload_n (k := 0) dX6_hasYard_5 rfl rfl ?_
    refine z_getI dX6_hasYard_6 fX6_26 rfl (Or.inl rfl) ?_
    have b1 := zv_R h 15 0
    refine z_icmp_ge (tgt := 16) dX6_hasYard_9 (by decide) (by omega) (by omega) (fun c9 => ?_) (fun c9 => ?_)
    · skip
      refine z_iconst dX6_hasYard_16 ?_
      refine z_zret dX6_hasYard_17 rfl (Or.inl rfl) ?_
      exact k0 (by omega)
    · skip
      refine z_iconst dX6_hasYard_12 ?_
      refine ab_goto (tgt := 17) dX6_hasYard_13 (by decide) ?_
      refine z_zret dX6_hasYard_17 rfl (Or.inr rfl) ?_
      exact k1 (by omega)
theorem c_isGate {d : Nat} {h : ab_H} {Q : ab_Q} {s : Int} (hs : inR s) (hN : zv h 15 0 ≤ 20) (k1 : 0 ≤ s ∧ s < zv h 15 0 ∧ ¬ zv h 18 s.toNat = 0 → Q (some (.int (iI 1))) h) (k0 : ¬ (0 ≤ s ∧ s < zv h 15 0 ∧ ¬ zv h 18 s.toNat = 0) → Q (some (.int (iI 0))) h) : ab_X (d + 1) mX6_isGate 0 (lv_args 0 [.ref 15, .int (iI s)]) [] h Q := by
  show ab_X (d + 1) mX6_isGate 0 [(0, .ref 15), (1, .int (iI s))] [] h Q
  refine ab_aload_n (k := 0) dX6_isGate_0 rfl rfl ?_
  refine ab_iload_n (k := 1) dX6_isGate_1 rfl rfl ?_
  refine ab_callV (As := [.int (iI s)]) (rest := []) dX6_isGate_2 lX6_41 rfl (Nat.le_of_ble_eq_true rfl) (Nat.le_of_ble_eq_true rfl) rfl ?_
  refine c_hasYard (by omega) (fun g2 => ?_) (fun g2 => ?_)
  · skip
    try simp only [Int.toNat_natCast] at g2
    show ab_X (d + 1) mX6_isGate 5 [(0, .ref 15), (1, .int (iI s))] [.int (iI 1)] h _
    refine z_if_eq (tgt := 21) dX6_isGate_5 (by decide) (by decide) (fun c5 => absurd c5 (by decide)) (fun _ => ?_)
    refine ab_aload_n (k := 0) dX6_isGate_8 rfl rfl ?_
    refine z_getP (b := 18) dX6_isGate_9 fX6_18 rfl rfl rfl ?_
    refine ab_iload_n (k := 1) dX6_isGate_12 rfl rfl ?_
    refine z_bald dX6_isGate_13 (Or.inr rfl) (by omega) (by omega) ?_
    have b1 := zv_R h 18 s.toNat
    refine z_if_eq (tgt := 21) dX6_isGate_14 (by decide) (by omega) (fun c14 => ?_) (fun c14 => ?_)
    · skip
      refine z_iconst dX6_isGate_21 ?_
      refine z_zret dX6_isGate_22 rfl (Or.inl rfl) ?_
      exact k0 (fun q => absurd q.2.2 (by omega))
    · skip
      refine z_iconst dX6_isGate_17 ?_
      refine ab_goto (tgt := 22) dX6_isGate_18 (by decide) ?_
      refine z_zret dX6_isGate_22 rfl (Or.inr rfl) ?_
      exact k1 ⟨by omega, by omega, by assumption⟩
  · skip
    try simp only [Int.toNat_natCast] at g2
    show ab_X (d + 1) mX6_isGate 5 [(0, .ref 15), (1, .int (iI s))] [.int (iI 0)] h _
    refine z_if_eq (tgt := 21) dX6_isGate_5 (by decide) (by decide) (fun _ => ?_) (fun c5 => absurd c5 (by decide))
    refine z_iconst dX6_isGate_21 ?_
    refine z_zret dX6_isGate_22 rfl (Or.inl rfl) ?_
    exact k0 (by omega)
theorem c_isWall {d : Nat} {h : ab_H} {Q : ab_Q} {s : Int} (hs : inR s) (hN : zv h 15 0 ≤ 20) (k1 : ¬ (0 ≤ s ∧ s < zv h 15 0) ∨ ¬ zv h 18 s.toNat = 0 → Q (some (.int (iI 1))) h) (k0 : ¬ (¬ (0 ≤ s ∧ s < zv h 15 0) ∨ ¬ zv h 18 s.toNat = 0) → Q (some (.int (iI 0))) h) : ab_X (d + 1) mX6_isWall 0 (lv_args 0 [.ref 15, .int (iI s)]) [] h Q := by
  show ab_X (d + 1) mX6_isWall 0 [(0, .ref 15), (1, .int (iI s))] [] h Q
  refine ab_aload_n (k := 0) dX6_isWall_0 rfl rfl ?_
  refine ab_iload_n (k := 1) dX6_isWall_1 rfl rfl ?_
  refine ab_callV (As := [.int (iI s)]) (rest := []) dX6_isWall_2 lX6_41 rfl (Nat.le_of_ble_eq_true rfl) (Nat.le_of_ble_eq_true rfl) rfl ?_
  refine c_hasYard (by omega) (fun g2 => ?_) (fun g2 => ?_)
  · skip
    try simp only [Int.toNat_natCast] at g2
    show ab_X (d + 1) mX6_isWall 5 [(0, .ref 15), (1, .int (iI s))] [.int (iI 1)] h _
    refine z_if_eq (tgt := 17) dX6_isWall_5 (by decide) (by decide) (fun c5 => absurd c5 (by decide)) (fun _ => ?_)
    refine ab_aload_n (k := 0) dX6_isWall_8 rfl rfl ?_
    refine z_getP (b := 18) dX6_isWall_9 fX6_18 rfl rfl rfl ?_
    refine ab_iload_n (k := 1) dX6_isWall_12 rfl rfl ?_
    refine z_bald dX6_isWall_13 (Or.inr rfl) (by omega) (by omega) ?_
    have b1 := zv_R h 18 s.toNat
    refine z_if_eq (tgt := 21) dX6_isWall_14 (by decide) (by omega) (fun c14 => ?_) (fun c14 => ?_)
    · skip
      refine z_iconst dX6_isWall_21 ?_
      refine z_zret dX6_isWall_22 rfl (Or.inl rfl) ?_
      exact k0 (by omega)
    · skip
      refine z_iconst dX6_isWall_17 ?_
      refine ab_goto (tgt := 22) dX6_isWall_18 (by decide) ?_
      refine z_zret dX6_isWall_22 rfl (Or.inr rfl) ?_
      exact k1 (Or.inr (by assumption))
  · skip
    try simp only [Int.toNat_natCast] at g2
    show ab_X (d + 1) mX6_isWall 5 [(0, .ref 15), (1, .int (iI s))] [.int (iI 0)] h _
    refine z_if_eq (tgt := 17) dX6_isWall_5 (by decide) (by decide) (fun _ => ?_) (fun c5 => absurd c5 (by decide))
    refine z_iconst dX6_isWall_17 ?_
    refine ab_goto (tgt := 22) dX6_isWall_18 (by decide) ?_
    refine z_zret dX6_isWall_22 rfl (Or.inr rfl) ?_
    exact k1 (Or.inl (by omega))
theorem c_lengthOf {d : Nat} {h : ab_H} {Q : ab_Q} {s : Int} (hs : inR s) (hN : zv h 15 3 ≤ 4) (k1 : 0 ≤ s ∧ s < zv h 15 3 → Q (some (.int (iI (zv h 16 s.toNat)))) h) (k0 : ¬ (0 ≤ s ∧ s < zv h 15 3) → Q (some (.int (iI 0))) h) : ab_X (d + 1) mX6_lengthOf 0 (lv_args 0 [.ref 15, .int (iI s)]) [] h Q := by
  show ab_X (d + 1) mX6_lengthOf 0 [(0, .ref 15), (1, .int (iI s))] [] h Q
  refine ab_aload_n (k := 0) dX6_lengthOf_0 rfl rfl ?_
  refine ab_iload_n (k := 1) dX6_lengthOf_1 rfl rfl ?_
  refine ab_callV (As := [.int (iI s)]) (rest := []) dX6_lengthOf_2 lX6_45 rfl (Nat.le_of_ble_eq_true rfl) (Nat.le_of_ble_eq_true rfl) rfl ?_
  refine c_hasSort (by omega) (fun g2 => ?_) (fun g2 => ?_)
  · skip
    try simp only [Int.toNat_natCast] at g2
    show ab_X (d + 1) mX6_lengthOf 5 [(0, .ref 15), (1, .int (iI s))] [.int (iI 1)] h _
    refine z_if_eq (tgt := 17) dX6_lengthOf_5 (by decide) (by decide) (fun c5 => absurd c5 (by decide)) (fun _ => ?_)
    refine ab_aload_n (k := 0) dX6_lengthOf_8 rfl rfl ?_
    refine z_getP (b := 16) dX6_lengthOf_9 fX6_9 rfl rfl rfl ?_
    refine ab_iload_n (k := 1) dX6_lengthOf_12 rfl rfl ?_
    refine z_iald dX6_lengthOf_13 rfl (by omega) (by omega) ?_
    have b1 := zv_R h 16 s.toNat
    refine ab_goto (tgt := 18) dX6_lengthOf_14 (by decide) ?_
    refine z_iret dX6_lengthOf_18 rfl ?_
    exact k1 (by omega)
  · skip
    try simp only [Int.toNat_natCast] at g2
    show ab_X (d + 1) mX6_lengthOf 5 [(0, .ref 15), (1, .int (iI s))] [.int (iI 0)] h _
    refine z_if_eq (tgt := 17) dX6_lengthOf_5 (by decide) (by decide) (fun _ => ?_) (fun c5 => absurd c5 (by decide))
    refine z_iconst dX6_lengthOf_17 ?_
    refine z_iret dX6_lengthOf_18 rfl ?_
    exact k0 (by omega)
theorem c_weightOf {d : Nat} {h : ab_H} {Q : ab_Q} {s : Int} (hs : inR s) (hN : zv h 15 3 ≤ 4) (k1 : 0 ≤ s ∧ s < zv h 15 3 → Q (some (.int (iI (zv h 17 s.toNat)))) h) (k0 : ¬ (0 ≤ s ∧ s < zv h 15 3) → Q (some (.int (iI 0))) h) : ab_X (d + 1) mX6_weightOf 0 (lv_args 0 [.ref 15, .int (iI s)]) [] h Q := by
  show ab_X (d + 1) mX6_weightOf 0 [(0, .ref 15), (1, .int (iI s))] [] h Q
  refine ab_aload_n (k := 0) dX6_weightOf_0 rfl rfl ?_
  refine ab_iload_n (k := 1) dX6_weightOf_1 rfl rfl ?_
  refine ab_callV (As := [.int (iI s)]) (rest := []) dX6_weightOf_2 lX6_45 rfl (Nat.le_of_ble_eq_true rfl) (Nat.le_of_ble_eq_true rfl) rfl ?_
  refine c_hasSort (by omega) (fun g2 => ?_) (fun g2 => ?_)
  · skip
    try simp only [Int.toNat_natCast] at g2
    show ab_X (d + 1) mX6_weightOf 5 [(0, .ref 15), (1, .int (iI s))] [.int (iI 1)] h _
    refine z_if_eq (tgt := 17) dX6_weightOf_5 (by decide) (by decide) (fun c5 => absurd c5 (by decide)) (fun _ => ?_)
    refine ab_aload_n (k := 0) dX6_weightOf_8 rfl rfl ?_
    refine z_getP (b := 17) dX6_weightOf_9 fX6_15 rfl rfl rfl ?_
    refine ab_iload_n (k := 1) dX6_weightOf_12 rfl rfl ?_
    refine z_iald dX6_weightOf_13 rfl (by omega) (by omega) ?_
    have b1 := zv_R h 17 s.toNat
    refine ab_goto (tgt := 18) dX6_weightOf_14 (by decide) ?_
    refine z_iret dX6_weightOf_18 rfl ?_
    exact k1 (by omega)
  · skip
    try simp only [Int.toNat_natCast] at g2
    show ab_X (d + 1) mX6_weightOf 5 [(0, .ref 15), (1, .int (iI s))] [.int (iI 0)] h _
    refine z_if_eq (tgt := 17) dX6_weightOf_5 (by decide) (by decide) (fun _ => ?_) (fun c5 => absurd c5 (by decide))
    refine z_iconst dX6_weightOf_17 ?_
    refine z_iret dX6_weightOf_18 rfl ?_
    exact k0 (by omega)
theorem c_placeAt {d : Nat} {h : ab_H} {Q : ab_Q} {r : Nat} {s : Int} (hr : ab_kd r = (9, 0)) (hr1 : ab_kd (r + 1) = (20, 20)) (hp : ab_P h.2.2 r 0 = r + 1) (hs : inR s) (k1 : 0 ≤ s ∧ s < 20 → Q (some (.int (iI (zv h (r + 1) s.toNat)))) h) (k0 : ¬ (0 ≤ s ∧ s < 20) → Q (some (.int (iI (-1)))) h) : ab_X d mX9_placeAt 0 (lv_args 0 [.ref r, .int (iI s)]) [] h Q := by
  show ab_X d mX9_placeAt 0 [(0, .ref r), (1, .int (iI s))] [] h Q
  refine ab_iload_n (k := 1) dX9_placeAt_0 rfl rfl ?_
  refine z_if_lt (tgt := 19) dX9_placeAt_1 (by decide) (by omega) (fun c1 => ?_) (fun c1 => ?_)
  · skip
    refine z_iconst dX9_placeAt_19 ?_
    refine z_iret dX9_placeAt_20 rfl ?_
    exact k0 (by omega)
  · skip
    refine ab_iload_n (k := 1) dX9_placeAt_4 rfl rfl ?_
    refine z_bipush dX9_placeAt_5 (by decide) ?_
    refine z_icmp_ge (tgt := 19) dX9_placeAt_7 (by decide) (by omega) (by decide) (fun c7 => ?_) (fun c7 => ?_)
    · skip
      refine z_iconst dX9_placeAt_19 ?_
      refine z_iret dX9_placeAt_20 rfl ?_
      exact k0 (by omega)
    · skip
      refine ab_aload_n (k := 0) dX9_placeAt_10 rfl rfl ?_
      refine z_getP (b := (r + 1)) dX9_placeAt_11 fX9_9 hr rfl hp ?_
      refine ab_iload_n (k := 1) dX9_placeAt_14 rfl rfl ?_
      refine z_iald dX9_placeAt_15 (by assumption) (by omega) (by omega) ?_
      have b1 := zv_R h (r + 1) s.toNat
      refine ab_goto (tgt := 20) dX9_placeAt_16 (by decide) ?_
      refine z_iret dX9_placeAt_20 rfl ?_
      exact k1 (by omega)
theorem c_sortAt {d : Nat} {h : ab_H} {Q : ab_Q} {s : Int} (hs : inR s) (k1 : 0 ≤ s ∧ s < 20 → Q (some (.int (iI (zv h 38 s.toNat)))) h) (k0 : ¬ (0 ≤ s ∧ s < 20) → Q (some (.int (iI (-1)))) h) : ab_X d mX9_sortAt 0 (lv_args 0 [.ref 36, .int (iI s)]) [] h Q := by
  show ab_X d mX9_sortAt 0 [(0, .ref 36), (1, .int (iI s))] [] h Q
  refine ab_iload_n (k := 1) dX9_sortAt_0 rfl rfl ?_
  refine z_if_lt (tgt := 19) dX9_sortAt_1 (by decide) (by omega) (fun c1 => ?_) (fun c1 => ?_)
  · skip
    refine z_iconst dX9_sortAt_19 ?_
    refine z_iret dX9_sortAt_20 rfl ?_
    exact k0 (by omega)
  · skip
    refine ab_iload_n (k := 1) dX9_sortAt_4 rfl rfl ?_
    refine z_bipush dX9_sortAt_5 (by decide) ?_
    refine z_icmp_ge (tgt := 19) dX9_sortAt_7 (by decide) (by omega) (by decide) (fun c7 => ?_) (fun c7 => ?_)
    · skip
      refine z_iconst dX9_sortAt_19 ?_
      refine z_iret dX9_sortAt_20 rfl ?_
      exact k0 (by omega)
    · skip
      refine ab_aload_n (k := 0) dX9_sortAt_10 rfl rfl ?_
      refine z_getP (b := 38) dX9_sortAt_11 fX9_15 rfl rfl rfl ?_
      refine ab_iload_n (k := 1) dX9_sortAt_14 rfl rfl ?_
      refine z_iald dX9_sortAt_15 rfl (by omega) (by omega) ?_
      have b1 := zv_R h 38 s.toNat
      refine ab_goto (tgt := 20) dX9_sortAt_16 (by decide) ?_
      refine z_iret dX9_sortAt_20 rfl ?_
      exact k1 (by omega)
theorem c_beginsAt {d : Nat} {h : ab_H} {Q : ab_Q} {s : Int} (hs : inR s) (k1 : 0 ≤ s ∧ s < 20 ∧ zv h 37 s.toNat = s → Q (some (.int (iI 1))) h) (k0 : ¬ (0 ≤ s ∧ s < 20 ∧ zv h 37 s.toNat = s) → Q (some (.int (iI 0))) h) : ab_X d mX9_beginsAt 0 (lv_args 0 [.ref 36, .int (iI s)]) [] h Q := by
  show ab_X d mX9_beginsAt 0 [(0, .ref 36), (1, .int (iI s))] [] h Q
  refine ab_iload_n (k := 1) dX9_beginsAt_0 rfl rfl ?_
  refine z_if_lt (tgt := 24) dX9_beginsAt_1 (by decide) (by omega) (fun c1 => ?_) (fun c1 => ?_)
  · skip
    refine z_iconst dX9_beginsAt_24 ?_
    refine z_zret dX9_beginsAt_25 rfl (Or.inl rfl) ?_
    exact k0 (by omega)
  · skip
    refine ab_iload_n (k := 1) dX9_beginsAt_4 rfl rfl ?_
    refine z_bipush dX9_beginsAt_5 (by decide) ?_
    refine z_icmp_ge (tgt := 24) dX9_beginsAt_7 (by decide) (by omega) (by decide) (fun c7 => ?_) (fun c7 => ?_)
    · skip
      refine z_iconst dX9_beginsAt_24 ?_
      refine z_zret dX9_beginsAt_25 rfl (Or.inl rfl) ?_
      exact k0 (by omega)
    · skip
      refine ab_aload_n (k := 0) dX9_beginsAt_10 rfl rfl ?_
      refine z_getP (b := 37) dX9_beginsAt_11 fX9_9 rfl rfl rfl ?_
      refine ab_iload_n (k := 1) dX9_beginsAt_14 rfl rfl ?_
      refine z_iald dX9_beginsAt_15 rfl (by omega) (by omega) ?_
      have b1 := zv_R h 37 s.toNat
      refine ab_iload_n (k := 1) dX9_beginsAt_16 rfl rfl ?_
      refine z_icmp_ne (tgt := 24) dX9_beginsAt_17 (by decide) (by omega) (by omega) (fun c17 => ?_) (fun c17 => ?_)
      · skip
        refine z_iconst dX9_beginsAt_24 ?_
        refine z_zret dX9_beginsAt_25 rfl (Or.inl rfl) ?_
        exact k0 (by omega)
      · skip
        refine z_iconst dX9_beginsAt_20 ?_
        refine ab_goto (tgt := 25) dX9_beginsAt_21 (by decide) ?_
        refine z_zret dX9_beginsAt_25 rfl (Or.inr rfl) ?_
        exact k1 (by omega)
