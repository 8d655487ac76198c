/-! CONTRACTS OF THE MODEL: queries -/
/-- a yard of the model's row is free -/
def mfr (h : ab_H) (n y : Nat) : Bool := decide (y < n ∧ zv h 211 y = -1)
theorem mfr_iff {h : ab_H} {n y : Nat} : mfr h n y = true ↔ y < n ∧ zv h 211 y = -1 := by unfold mfr; exact decide_eq_true_iff
theorem c_isIn {d : Nat} {h : ab_H} {Q : ab_Q} {v a b : Int} (hv : inL v) (ha : inL a) (hb : inL b) (k1 : a ≤ v ∧ v ≤ b → Q (some (.int (iI 1))) h) (k0 : ¬ (a ≤ v ∧ v ≤ b) → Q (some (.int (iI 0))) h) : ab_X d mX12_isIn 0 (lv_args 0 [.long (lL v), .long (lL a), .long (lL b)]) [] h Q := by
  show ab_X d mX12_isIn 0 [(0, .long (lL v)), (2, .long (lL a)), (4, .long (lL b))] [] h Q
  refine ab_lload_n (k := 0) dX12_isIn_0 rfl rfl ?_
  refine ab_lload_n (k := 1) dX12_isIn_1 rfl rfl ?_
  refine z_lcmp dX12_isIn_2 (by omega) (by omega) (fun c2 => ?_) (fun c2 => ?_) (fun c2 => ?_)
  · skip
    refine z_if_lt (tgt := 17) dX12_isIn_3 (by decide) (by decide) (fun c3 => absurd c3 (by decide)) (fun _ => ?_)
    refine ab_lload_n (k := 0) dX12_isIn_6 rfl rfl ?_
    refine ab_lload (k := 2) dX12_isIn_7 rfl ?_
    refine z_lcmp dX12_isIn_9 (by omega) (by omega) (fun c9 => ?_) (fun c9 => ?_) (fun c9 => ?_)
    · skip
      refine z_if_gt (tgt := 17) dX12_isIn_10 (by decide) (by decide) (fun _ => ?_) (fun c10 => absurd c10 (by decide))
      refine z_iconst dX12_isIn_17 ?_
      refine z_zret dX12_isIn_18 rfl (Or.inl rfl) ?_
      first | exact k0 (by omega) | exact k1 (by omega)
    · skip
      refine z_if_gt (tgt := 17) dX12_isIn_10 (by decide) (by decide) (fun c10 => absurd c10 (by decide)) (fun _ => ?_)
      refine z_iconst dX12_isIn_13 ?_
      refine ab_goto (tgt := 18) dX12_isIn_14 (by decide) ?_
      refine z_zret dX12_isIn_18 rfl (Or.inr rfl) ?_
      first | exact k0 (by omega) | exact k1 (by omega)
    · skip
      refine z_if_gt (tgt := 17) dX12_isIn_10 (by decide) (by decide) (fun c10 => absurd c10 (by decide)) (fun _ => ?_)
      refine z_iconst dX12_isIn_13 ?_
      refine ab_goto (tgt := 18) dX12_isIn_14 (by decide) ?_
      refine z_zret dX12_isIn_18 rfl (Or.inr rfl) ?_
      first | exact k0 (by omega) | exact k1 (by omega)
  · skip
    refine z_if_lt (tgt := 17) dX12_isIn_3 (by decide) (by decide) (fun c3 => absurd c3 (by decide)) (fun _ => ?_)
    refine ab_lload_n (k := 0) dX12_isIn_6 rfl rfl ?_
    refine ab_lload (k := 2) dX12_isIn_7 rfl ?_
    refine z_lcmp dX12_isIn_9 (by omega) (by omega) (fun c9 => ?_) (fun c9 => ?_) (fun c9 => ?_)
    · skip
      refine z_if_gt (tgt := 17) dX12_isIn_10 (by decide) (by decide) (fun _ => ?_) (fun c10 => absurd c10 (by decide))
      refine z_iconst dX12_isIn_17 ?_
      refine z_zret dX12_isIn_18 rfl (Or.inl rfl) ?_
      first | exact k0 (by omega) | exact k1 (by omega)
    · skip
      refine z_if_gt (tgt := 17) dX12_isIn_10 (by decide) (by decide) (fun c10 => absurd c10 (by decide)) (fun _ => ?_)
      refine z_iconst dX12_isIn_13 ?_
      refine ab_goto (tgt := 18) dX12_isIn_14 (by decide) ?_
      refine z_zret dX12_isIn_18 rfl (Or.inr rfl) ?_
      first | exact k0 (by omega) | exact k1 (by omega)
    · skip
      refine z_if_gt (tgt := 17) dX12_isIn_10 (by decide) (by decide) (fun c10 => absurd c10 (by decide)) (fun _ => ?_)
      refine z_iconst dX12_isIn_13 ?_
      refine ab_goto (tgt := 18) dX12_isIn_14 (by decide) ?_
      refine z_zret dX12_isIn_18 rfl (Or.inr rfl) ?_
      first | exact k0 (by omega) | exact k1 (by omega)
  · skip
    refine z_if_lt (tgt := 17) dX12_isIn_3 (by decide) (by decide) (fun _ => ?_) (fun c3 => absurd c3 (by decide))
    refine z_iconst dX12_isIn_17 ?_
    refine z_zret dX12_isIn_18 rfl (Or.inl rfl) ?_
    first | exact k0 (by omega) | exact k1 (by omega)
theorem c_misSort {d : Nat} {h : ab_H} {Q : ab_Q} {s : Int} (hs : inR s) (k1 : 0 ≤ s ∧ s < zv h 200 24 → Q (some (.int (iI 1))) h) (k0 : ¬ (0 ≤ s ∧ s < zv h 200 24) → Q (some (.int (iI 0))) h) : ab_X d mX12_isSort 0 (lv_args 0 [.ref 200, .int (iI s)]) [] h Q := by
  show ab_X d mX12_isSort 0 [(0, .ref 200), (1, .int (iI s))] [] h Q
  refine ab_iload_n (k := 1) dX12_isSort_0 rfl rfl ?_
  refine z_if_lt (tgt := 16) dX12_isSort_1 (by decide) (by omega) (fun c1 => ?_) (fun c1 => ?_)
  · skip
    refine z_iconst dX12_isSort_16 ?_
    refine z_zret dX12_isSort_17 rfl (Or.inl rfl) ?_
    first | exact k0 (by omega) | exact k1 (by omega)
  · skip
    refine ab_iload_n (k := 1) dX12_isSort_4 rfl rfl ?_
    refine ab_aload_n (k := 0) dX12_isSort_5 rfl rfl ?_
    refine z_getI dX12_isSort_6 fX12_284 rfl (Or.inl rfl) ?_
    have b1 := zv_R h 200 24
    refine z_icmp_ge (tgt := 16) dX12_isSort_9 (by decide) (by omega) (by omega) (fun c9 => ?_) (fun c9 => ?_)
    · skip
      refine z_iconst dX12_isSort_16 ?_
      refine z_zret dX12_isSort_17 rfl (Or.inl rfl) ?_
      first | exact k0 (by omega) | exact k1 (by omega)
    · skip
      refine z_iconst dX12_isSort_12 ?_
      refine ab_goto (tgt := 17) dX12_isSort_13 (by decide) ?_
      refine z_zret dX12_isSort_17 rfl (Or.inr rfl) ?_
      first | exact k0 (by omega) | exact k1 (by omega)
theorem c_misYard {d : Nat} {h : ab_H} {Q : ab_Q} {s : Int} (hs : inR s) (k1 : 0 ≤ s ∧ s < zv h 200 32 → Q (some (.int (iI 1))) h) (k0 : ¬ (0 ≤ s ∧ s < zv h 200 32) → Q (some (.int (iI 0))) h) : ab_X d mX12_isYard 0 (lv_args 0 [.ref 200, .int (iI s)]) [] h Q := by
  show ab_X d mX12_isYard 0 [(0, .ref 200), (1, .int (iI s))] [] h Q
  refine ab_iload_n (k := 1) dX12_isYard_0 rfl rfl ?_
  refine z_if_lt (tgt := 16) dX12_isYard_1 (by decide) (by omega) (fun c1 => ?_) (fun c1 => ?_)
  · skip
    refine z_iconst dX12_isYard_16 ?_
    refine z_zret dX12_isYard_17 rfl (Or.inl rfl) ?_
    first | exact k0 (by omega) | exact k1 (by omega)
  · skip
    refine ab_iload_n (k := 1) dX12_isYard_4 rfl rfl ?_
    refine ab_aload_n (k := 0) dX12_isYard_5 rfl rfl ?_
    refine z_getI dX12_isYard_6 fX12_290 rfl (Or.inl rfl) ?_
    have b1 := zv_R h 200 32
    refine z_icmp_ge (tgt := 16) dX12_isYard_9 (by decide) (by omega) (by omega) (fun c9 => ?_) (fun c9 => ?_)
    · skip
      refine z_iconst dX12_isYard_16 ?_
      refine z_zret dX12_isYard_17 rfl (Or.inl rfl) ?_
      first | exact k0 (by omega) | exact k1 (by omega)
    · skip
      refine z_iconst dX12_isYard_12 ?_
      refine ab_goto (tgt := 17) dX12_isYard_13 (by decide) ?_
      refine z_zret dX12_isYard_17 rfl (Or.inr rfl) ?_
      first | exact k0 (by omega) | exact k1 (by omega)
theorem c_misFree {d : Nat} {h : ab_H} {Q : ab_Q} {n : Nat} {s : Int} (hn : zv h 200 32 = n) (hn2 : n ≤ 20) (hs : inR s) (k1 : 0 ≤ s → mfr h n s.toNat = true → Q (some (.int (iI 1))) h) (k0 : ¬ (0 ≤ s ∧ mfr h n s.toNat = true) → Q (some (.int (iI 0))) h) : ab_X (d + 1) mX12_isFree 0 (lv_args 0 [.ref 200, .int (iI s)]) [] h Q := by
  show ab_X (d + 1) mX12_isFree 0 [(0, .ref 200), (1, .int (iI s))] [] h Q
  refine ab_aload_n (k := 0) dX12_isFree_0 rfl rfl ?_
  refine ab_iload_n (k := 1) dX12_isFree_1 rfl rfl ?_
  refine ab_callV (As := [.int (iI s)]) (rest := []) dX12_isFree_2 lX12_302 rfl (Nat.le_of_ble_eq_true rfl) (Nat.le_of_ble_eq_true rfl) rfl ?_
  refine c_misYard (by omega) (fun g2 => ?_) (fun g2 => ?_)
  · skip
    try simp only [Int.toNat_natCast] at g2
    have gL := g2
    show ab_X (d + 1) mX12_isFree 5 [(0, .ref 200), (1, .int (iI s))] [.int (iI 1)] h _
    refine z_if_eq (tgt := 22) dX12_isFree_5 (by decide) (by decide) (fun c5 => absurd c5 (by decide)) (fun _ => ?_)
    refine ab_aload_n (k := 0) dX12_isFree_8 rfl rfl ?_
    refine z_getP (b := 211) dX12_isFree_9 fX12_55 rfl rfl rfl ?_
    refine ab_iload_n (k := 1) dX12_isFree_12 rfl rfl ?_
    refine z_iald dX12_isFree_13 rfl (by omega) (by omega) ?_
    have b1 := zv_R h 211 s.toNat
    refine z_iconst dX12_isFree_14 ?_
    refine z_icmp_ne (tgt := 22) dX12_isFree_15 (by decide) (by omega) (by decide) (fun c15 => ?_) (fun c15 => ?_)
    · skip
      refine z_iconst dX12_isFree_22 ?_
      refine z_zret dX12_isFree_23 rfl (Or.inl rfl) ?_
      first | exact k1 (by omega) (mfr_iff.mpr ⟨by omega, by omega⟩) | exact k0 (fun q => absurd (mfr_iff.mp q.2) (by omega))
    · skip
      refine z_iconst dX12_isFree_18 ?_
      refine ab_goto (tgt := 23) dX12_isFree_19 (by decide) ?_
      refine z_zret dX12_isFree_23 rfl (Or.inr rfl) ?_
      first | exact k1 (by omega) (mfr_iff.mpr ⟨by omega, by omega⟩) | exact k0 (fun q => absurd (mfr_iff.mp q.2) (by omega))
  · skip
    try simp only [Int.toNat_natCast] at g2
    have gL := g2
    show ab_X (d + 1) mX12_isFree 5 [(0, .ref 200), (1, .int (iI s))] [.int (iI 0)] h _
    refine z_if_eq (tgt := 22) dX12_isFree_5 (by decide) (by decide) (fun _ => ?_) (fun c5 => absurd c5 (by decide))
    refine z_iconst dX12_isFree_22 ?_
    refine z_zret dX12_isFree_23 rfl (Or.inl rfl) ?_
    first | exact k1 (by omega) (mfr_iff.mpr ⟨by omega, by omega⟩) | exact k0 (fun q => absurd (mfr_iff.mp q.2) (by omega))
theorem c_mlengthOf {d : Nat} {h : ab_H} {Q : ab_Q} {s : Int} (hs : 0 ≤ s ∧ s < 4) (K : Q (some (.int (iI (zv h 207 (2 * s.toNat))))) h) : ab_X d mX12_lengthOf 0 (lv_args 0 [.ref 200, .int (iI s)]) [] h Q := by
  show ab_X d mX12_lengthOf 0 [(0, .ref 200), (1, .int (iI s))] [] h Q
  refine ab_aload_n (k := 0) dX12_lengthOf_0 rfl rfl ?_
  refine z_getP (b := 207) dX12_lengthOf_1 fX12_43 rfl rfl rfl ?_
  refine z_iconst dX12_lengthOf_4 ?_
  refine ab_iload_n (k := 1) dX12_lengthOf_5 rfl rfl ?_
  refine z_imul dX12_lengthOf_6 ?_
  refine z_iald dX12_lengthOf_7 rfl (by omega) (by omega) ?_
  have b1 := zv_R h 207 (2 * s).toNat
  refine z_iret dX12_lengthOf_8 rfl ?_
  rw [show (2 * s).toNat = 2 * s.toNat by omega]
  exact K
theorem c_thrown {d : Nat} {h : ab_H} {Q : ab_Q}  (K : Q (some (.int (iI (zv h 200 0)))) h) : ab_X d mX12_thrown 0 (lv_args 0 [.ref 200]) [] h Q := by
  show ab_X d mX12_thrown 0 [(0, .ref 200)] [] h Q
  refine ab_aload_n (k := 0) dX12_thrown_0 rfl rfl ?_
  refine z_getI dX12_thrown_1 fX12_111 rfl (Or.inl rfl) ?_
  have b1 := zv_R h 200 0
  refine z_iret dX12_thrown_4 rfl ?_
  exact K
theorem c_mend {d : Nat} {h : ab_H} {Q : ab_Q} {h9 : ab_H} {s : Int} (e9 : zp h 200 0 0 = h9) (hs : inR s) (k1 : 0 ≤ s ∧ s ≤ zv h9 200 6 → Q (some (.int (iI 1))) (zp h9 200 6 s)) (k0 : ¬ (0 ≤ s ∧ s ≤ zv h9 200 6) → Q (some (.int (iI 0))) h9) : ab_X d mX12_end 0 (lv_args 0 [.ref 200, .int (iI s)]) [] h Q := by
  show ab_X d mX12_end 0 [(0, .ref 200), (1, .int (iI s))] [] h Q
  refine ab_aload_n (k := 0) dX12_end_0 rfl rfl ?_
  refine z_iconst dX12_end_1 ?_
  refine z_putI dX12_end_2 fX12_111 rfl rfl ?_
  rw [e9]
  refine ab_iload_n (k := 1) dX12_end_5 rfl rfl ?_
  refine z_if_lt (tgt := 17) dX12_end_6 (by decide) (by omega) (fun c6 => ?_) (fun c6 => ?_)
  · skip
    refine z_iconst dX12_end_17 ?_
    refine z_zret dX12_end_18 rfl (Or.inl rfl) ?_
    first | exact k0 (by omega) | exact k1 (by omega)
  · skip
    refine ab_iload_n (k := 1) dX12_end_9 rfl rfl ?_
    refine ab_aload_n (k := 0) dX12_end_10 rfl rfl ?_
    refine z_getI dX12_end_11 fX12_124 rfl (Or.inl rfl) ?_
    have b1 := zv_R h9 200 6
    refine z_icmp_le (tgt := 19) dX12_end_14 (by decide) (by omega) (by omega) (fun c14 => ?_) (fun c14 => ?_)
    · skip
      refine ab_aload_n (k := 0) dX12_end_19 rfl rfl ?_
      refine ab_iload_n (k := 1) dX12_end_20 rfl rfl ?_
      refine z_putI dX12_end_21 fX12_124 rfl rfl ?_
      refine z_iconst dX12_end_24 ?_
      refine z_zret dX12_end_25 rfl (Or.inr rfl) ?_
      first | exact k0 (by omega) | exact k1 (by omega)
    · skip
      refine z_iconst dX12_end_17 ?_
      refine z_zret dX12_end_18 rfl (Or.inl rfl) ?_
      first | exact k0 (by omega) | exact k1 (by omega)
theorem c_msort {d : Nat} {h : ab_H} {Q : ab_Q} {h9 : ab_H} {s x : Int} (e9 : zp h 200 0 0 = h9) (hs : inR s) (hx : inR x) (hN : zv h9 200 24 ≤ 4) (k1 : (0 ≤ s ∧ s < zv h9 200 24) ∧ 0 ≤ x ∧ x ≤ 1 → Q (some (.int (iI (zv h9 207 (2 * s + x).toNat)))) h9) (k0 : ¬ ((0 ≤ s ∧ s < zv h9 200 24) ∧ 0 ≤ x ∧ x ≤ 1) → Q (some (.int (iI (-1)))) h9) : ab_X (d + 1) mX12_sort 0 (lv_args 0 [.ref 200, .int (iI s), .int (iI x)]) [] h Q := by
  show ab_X (d + 1) mX12_sort 0 [(0, .ref 200), (1, .int (iI s)), (2, .int (iI x))] [] h Q
  refine ab_aload_n (k := 0) dX12_sort_0 rfl rfl ?_
  refine z_iconst dX12_sort_1 ?_
  refine z_putI dX12_sort_2 fX12_111 rfl rfl ?_
  rw [e9]
  refine ab_aload_n (k := 0) dX12_sort_5 rfl rfl ?_
  refine ab_iload_n (k := 1) dX12_sort_6 rfl rfl ?_
  refine ab_callV (As := [.int (iI s)]) (rest := []) dX12_sort_7 lX12_307 rfl (Nat.le_of_ble_eq_true rfl) (Nat.le_of_ble_eq_true rfl) rfl ?_
  refine c_misSort (by omega) (fun g7 => ?_) (fun g7 => ?_)
  · skip
    try simp only [Int.toNat_natCast] at g7
    have gL := g7
    show ab_X (d + 1) mX12_sort 10 [(0, .ref 200), (1, .int (iI s)), (2, .int (iI x))] [.int (iI 1)] h9 _
    refine z_if_eq (tgt := 36) dX12_sort_10 (by decide) (by decide) (fun c10 => absurd c10 (by decide)) (fun _ => ?_)
    refine ab_iload_n (k := 2) dX12_sort_13 rfl rfl ?_
    refine z_i2l dX12_sort_14 (by omega) ?_
    refine z_lconst (v := 0) dX12_sort_15 (by decide) ?_
    refine z_lconst (v := 1) dX12_sort_16 (by decide) ?_
    refine ab_callS (As := [.long (lL x), .long (lL 0), .long (lL 1)]) (rest := []) dX12_sort_17 lX12_232 (Nat.le_of_ble_eq_true rfl) (Nat.le_of_ble_eq_true rfl) rfl ?_
    refine c_isIn (by omega) (by omega) (by omega) (fun g17 => ?_) (fun g17 => ?_)
    · skip
      try simp only [Int.toNat_natCast] at g17
      have gL := g17
      show ab_X (d + 1) mX12_sort 20 [(0, .ref 200), (1, .int (iI s)), (2, .int (iI x))] [.int (iI 1)] h9 _
      refine z_if_eq (tgt := 36) dX12_sort_20 (by decide) (by decide) (fun c20 => absurd c20 (by decide)) (fun _ => ?_)
      refine ab_aload_n (k := 0) dX12_sort_23 rfl rfl ?_
      refine z_getP (b := 207) dX12_sort_24 fX12_43 rfl rfl rfl ?_
      refine z_iconst dX12_sort_27 ?_
      refine ab_iload_n (k := 1) dX12_sort_28 rfl rfl ?_
      refine z_imul dX12_sort_29 ?_
      refine ab_iload_n (k := 2) dX12_sort_30 rfl rfl ?_
      refine z_iadd dX12_sort_31 ?_
      refine z_iald dX12_sort_32 rfl (by omega) (by omega) ?_
      have b1 := zv_R h9 207 ((2 * s) + x).toNat
      refine ab_goto (tgt := 37) dX12_sort_33 (by decide) ?_
      refine z_iret dX12_sort_37 rfl ?_
      first | exact k0 (by omega) | exact k1 (by omega)
    · skip
      try simp only [Int.toNat_natCast] at g17
      have gL := g17
      show ab_X (d + 1) mX12_sort 20 [(0, .ref 200), (1, .int (iI s)), (2, .int (iI x))] [.int (iI 0)] h9 _
      refine z_if_eq (tgt := 36) dX12_sort_20 (by decide) (by decide) (fun _ => ?_) (fun c20 => absurd c20 (by decide))
      refine z_iconst dX12_sort_36 ?_
      refine z_iret dX12_sort_37 rfl ?_
      first | exact k0 (by omega) | exact k1 (by omega)
  · skip
    try simp only [Int.toNat_natCast] at g7
    have gL := g7
    show ab_X (d + 1) mX12_sort 10 [(0, .ref 200), (1, .int (iI s)), (2, .int (iI x))] [.int (iI 0)] h9 _
    refine z_if_eq (tgt := 36) dX12_sort_10 (by decide) (by decide) (fun _ => ?_) (fun c10 => absurd c10 (by decide))
    refine z_iconst dX12_sort_36 ?_
    refine z_iret dX12_sort_37 rfl ?_
    first | exact k0 (by omega) | exact k1 (by omega)
theorem c_mrule {d : Nat} {h : ab_H} {Q : ab_Q} {h9 : ab_H} {s : Int} (e9 : zp h 200 0 0 = h9) (hs : inR s) (hr : 0 ≤ zv h9 200 7 ∧ zv h9 200 7 ≤ 4) (k1 : ¬ zv h9 200 24 = 0 ∧ (s = -1 ∨ (0 ≤ s ∧ s < zv h9 200 7)) → Q (some (.int (iI 1))) (zp h9 200 33 s)) (k0 : ¬ (¬ zv h9 200 24 = 0 ∧ (s = -1 ∨ (0 ≤ s ∧ s < zv h9 200 7))) → Q (some (.int (iI 0))) h9) : ab_X (d + 1) mX12_rule 0 (lv_args 0 [.ref 200, .int (iI s)]) [] h Q := by
  show ab_X (d + 1) mX12_rule 0 [(0, .ref 200), (1, .int (iI s))] [] h Q
  refine ab_aload_n (k := 0) dX12_rule_0 rfl rfl ?_
  refine z_iconst dX12_rule_1 ?_
  refine z_putI dX12_rule_2 fX12_111 rfl rfl ?_
  rw [e9]
  refine ab_aload_n (k := 0) dX12_rule_5 rfl rfl ?_
  refine z_getI dX12_rule_6 fX12_284 rfl (Or.inl rfl) ?_
  have b1 := zv_R h9 200 24
  refine z_if_eq (tgt := 33) dX12_rule_9 (by decide) (by omega) (fun c9 => ?_) (fun c9 => ?_)
  · skip
    refine z_iconst dX12_rule_33 ?_
    refine z_zret dX12_rule_34 rfl (Or.inl rfl) ?_
    first | exact k0 (by omega) | exact k1 (by omega)
  · skip
    refine ab_iload_n (k := 1) dX12_rule_12 rfl rfl ?_
    refine z_iconst dX12_rule_13 ?_
    refine z_icmp_eq (tgt := 35) dX12_rule_14 (by decide) (by omega) (by decide) (fun c14 => ?_) (fun c14 => ?_)
    · skip
      refine ab_aload_n (k := 0) dX12_rule_35 rfl rfl ?_
      refine ab_iload_n (k := 1) dX12_rule_36 rfl rfl ?_
      refine z_putI dX12_rule_37 fX12_64 rfl rfl ?_
      refine z_iconst dX12_rule_40 ?_
      refine z_zret dX12_rule_41 rfl (Or.inr rfl) ?_
      first | exact k0 (by omega) | exact k1 (by omega)
    · skip
      refine ab_iload_n (k := 1) dX12_rule_17 rfl rfl ?_
      refine z_i2l dX12_rule_18 (by omega) ?_
      refine z_lconst (v := 0) dX12_rule_19 (by decide) ?_
      refine ab_aload_n (k := 0) dX12_rule_20 rfl rfl ?_
      refine z_getI dX12_rule_21 fX12_279 rfl (Or.inl rfl) ?_
      have b2 := zv_R h9 200 7
      refine z_iconst dX12_rule_24 ?_
      refine z_isub dX12_rule_25 ?_
      refine z_i2l dX12_rule_26 (by omega) ?_
      refine ab_callS (As := [.long (lL s), .long (lL 0), .long (lL ((zv h9 200 7) - 1))]) (rest := []) dX12_rule_27 lX12_232 (Nat.le_of_ble_eq_true rfl) (Nat.le_of_ble_eq_true rfl) rfl ?_
      refine c_isIn (by omega) (by omega) (by omega) (fun g27 => ?_) (fun g27 => ?_)
      · skip
        try simp only [Int.toNat_natCast] at g27
        have gL := g27
        show ab_X (d + 1) mX12_rule 30 [(0, .ref 200), (1, .int (iI s))] [.int (iI 1)] h9 _
        refine z_if_ne (tgt := 35) dX12_rule_30 (by decide) (by decide) (fun _ => ?_) (fun c30 => absurd c30 (by decide))
        refine ab_aload_n (k := 0) dX12_rule_35 rfl rfl ?_
        refine ab_iload_n (k := 1) dX12_rule_36 rfl rfl ?_
        refine z_putI dX12_rule_37 fX12_64 rfl rfl ?_
        refine z_iconst dX12_rule_40 ?_
        refine z_zret dX12_rule_41 rfl (Or.inr rfl) ?_
        first | exact k0 (by omega) | exact k1 (by omega)
      · skip
        try simp only [Int.toNat_natCast] at g27
        have gL := g27
        show ab_X (d + 1) mX12_rule 30 [(0, .ref 200), (1, .int (iI s))] [.int (iI 0)] h9 _
        refine z_if_ne (tgt := 35) dX12_rule_30 (by decide) (by decide) (fun c30 => absurd c30 (by decide)) (fun _ => ?_)
        refine z_iconst dX12_rule_33 ?_
        refine z_zret dX12_rule_34 rfl (Or.inl rfl) ?_
        first | exact k0 (by omega) | exact k1 (by omega)
theorem c_mobey {d : Nat} {h : ab_H} {Q : ab_Q} {h9 : ab_H} {s : Int} (e9 : zp h 200 0 0 = h9) (hs : inR s) (k1 : ¬ zv h9 200 24 = 0 ∧ 0 ≤ s ∧ s ≤ 100 → Q (some (.int (iI 1))) (zp h9 205 1 s)) (k0 : ¬ (¬ zv h9 200 24 = 0 ∧ 0 ≤ s ∧ s ≤ 100) → Q (some (.int (iI 0))) h9) : ab_X (d + 1) mX12_obey 0 (lv_args 0 [.ref 200, .int (iI s)]) [] h Q := by
  show ab_X (d + 1) mX12_obey 0 [(0, .ref 200), (1, .int (iI s))] [] h Q
  refine ab_aload_n (k := 0) dX12_obey_0 rfl rfl ?_
  refine z_iconst dX12_obey_1 ?_
  refine z_putI dX12_obey_2 fX12_111 rfl rfl ?_
  rw [e9]
  refine ab_aload_n (k := 0) dX12_obey_5 rfl rfl ?_
  refine z_getI dX12_obey_6 fX12_284 rfl (Or.inl rfl) ?_
  have b1 := zv_R h9 200 24
  refine z_if_eq (tgt := 24) dX12_obey_9 (by decide) (by omega) (fun c9 => ?_) (fun c9 => ?_)
  · skip
    refine z_iconst dX12_obey_24 ?_
    refine z_zret dX12_obey_25 rfl (Or.inl rfl) ?_
    first | exact k0 (by omega) | exact k1 (by omega)
  · skip
    refine ab_iload_n (k := 1) dX12_obey_12 rfl rfl ?_
    refine z_i2l dX12_obey_13 (by omega) ?_
    refine z_lconst (v := 0) dX12_obey_14 (by decide) ?_
    refine z_ldc2 (v := 100) dX12_obey_15 qX12_310 (by decide) ?_
    refine ab_callS (As := [.long (lL s), .long (lL 0), .long (lL 100)]) (rest := []) dX12_obey_18 lX12_232 (Nat.le_of_ble_eq_true rfl) (Nat.le_of_ble_eq_true rfl) rfl ?_
    refine c_isIn (by omega) (by omega) (by omega) (fun g18 => ?_) (fun g18 => ?_)
    · skip
      try simp only [Int.toNat_natCast] at g18
      have gL := g18
      show ab_X (d + 1) mX12_obey 21 [(0, .ref 200), (1, .int (iI s))] [.int (iI 1)] h9 _
      refine z_if_ne (tgt := 26) dX12_obey_21 (by decide) (by decide) (fun _ => ?_) (fun c21 => absurd c21 (by decide))
      refine ab_aload_n (k := 0) dX12_obey_26 rfl rfl ?_
      refine z_getP (b := 205) dX12_obey_27 fX12_37 rfl rfl rfl ?_
      refine z_iconst dX12_obey_30 ?_
      refine ab_iload_n (k := 1) dX12_obey_31 rfl rfl ?_
      refine z_iast dX12_obey_32 rfl (by omega) (by omega) ?_
      refine z_iconst dX12_obey_33 ?_
      refine z_zret dX12_obey_34 rfl (Or.inr rfl) ?_
      first | exact k0 (by omega) | exact k1 (by omega)
    · skip
      try simp only [Int.toNat_natCast] at g18
      have gL := g18
      show ab_X (d + 1) mX12_obey 21 [(0, .ref 200), (1, .int (iI s))] [.int (iI 0)] h9 _
      refine z_if_ne (tgt := 26) dX12_obey_21 (by decide) (by decide) (fun c21 => absurd c21 (by decide)) (fun _ => ?_)
      refine z_iconst dX12_obey_24 ?_
      refine z_zret dX12_obey_25 rfl (Or.inl rfl) ?_
      first | exact k0 (by omega) | exact k1 (by omega)
theorem lp_canStop {d : Nat} {Q : ab_Q} {h0 : ab_H} {n s p L : Nat} (hn : zv h0 200 32 = n) (hn2 : n ≤ 20) (hs : s < 4) (hL : zv h0 207 (2 * s) = L) (hL2 : L ≤ 9) (hp : p ≤ 1000) (k1 : allf (mfr h0 n) L p = true → Q (some (.int (iI 1))) h0) (k0 : ¬ allf (mfr h0 n) L p = true → Q (some (.int (iI 0))) h0) : ∀ (nn : Nat) (y : Nat) (h : ab_H), p + L - y = nn → (h = h0) → (p ≤ y) → (y ≤ p + L) → (∀ j, p ≤ j → j < y → mfr h0 n j = true) → ab_X (d + 2) mX12_canStop 2 [(0, .ref 200), (1, .int (iI (s : Int))), (2, .int (iI (p : Int))), (3, .int (iI (y : Int)))] [] h Q := by
  intro nn
  induction nn using Nat.strongRecOn with
  | ind nn ih =>
  intro y h hnn hh h1 h2 hI
  subst hh
  refine ab_iload_n (k := 3) dX12_canStop_2 rfl rfl ?_
  refine ab_iload_n (k := 2) dX12_canStop_3 rfl rfl ?_
  refine ab_aload_n (k := 0) dX12_canStop_4 rfl rfl ?_
  refine ab_iload_n (k := 1) dX12_canStop_5 rfl rfl ?_
  refine ab_callV (As := [.int (iI (s : Int))]) (rest := [.int (iI (p : Int)), .int (iI (y : Int))]) dX12_canStop_6 lX12_312 rfl (Nat.le_of_ble_eq_true rfl) (Nat.le_of_ble_eq_true rfl) rfl ?_
  refine c_mlengthOf (by omega) ?_
  have bl6 := zv_R h 207 (2 * s)
  show ab_X (d + 2) mX12_canStop 9 [(0, .ref 200), (1, .int (iI (s : Int))), (2, .int (iI (p : Int))), (3, .int (iI (y : Int)))] [.int (iI (zv h 207 (2 * s))), .int (iI (p : Int)), .int (iI (y : Int))] h _
  refine z_is (y := (L : Int)) hL ?_
  refine z_iadd dX12_canStop_9 ?_
  refine z_icmp_ge (tgt := 29) dX12_canStop_10 (by decide) (by omega) (by omega) (fun c10 => ?_) (fun c10 => ?_)
  · skip
    refine z_iconst dX12_canStop_29 ?_
    refine z_zret dX12_canStop_30 rfl (Or.inr rfl) ?_
    first | exact k1 (allf_iff.mpr (fun j a b => hI j a (by omega))) | exact ih _ (by omega) (y + 1) h rfl rfl (by omega) (by omega) (fun j a b => if e : j = y then (by rw [e]; assumption) else hI j a (by omega)) | exact k0 (fun q => gL ⟨by omega, allf_iff.mp q y (by omega) (by omega)⟩)
  · skip
    refine ab_aload_n (k := 0) dX12_canStop_13 rfl rfl ?_
    refine ab_iload_n (k := 3) dX12_canStop_14 rfl rfl ?_
    refine ab_callV (As := [.int (iI (y : Int))]) (rest := []) dX12_canStop_15 lX12_315 rfl (Nat.le_of_ble_eq_true rfl) (Nat.le_of_ble_eq_true rfl) rfl ?_
    refine c_misFree hn hn2 (by omega) (fun z15 g15 => ?_) (fun g15 => ?_)
    · skip
      try simp only [Int.toNat_natCast] at g15
      have gL := g15
      show ab_X (d + 2) mX12_canStop 18 [(0, .ref 200), (1, .int (iI (s : Int))), (2, .int (iI (p : Int))), (3, .int (iI (y : Int)))] [.int (iI 1)] h _
      refine z_if_ne (tgt := 23) dX12_canStop_18 (by decide) (by decide) (fun _ => ?_) (fun c18 => absurd c18 (by decide))
      refine z_iinc (k := 3) (v := (y : Int) + 1) (ls' := [(3, .int (iI ((y : Int) + 1))), (0, .ref 200), (1, .int (iI (s : Int))), (2, .int (iI (p : Int)))]) dX12_canStop_23 rfl rfl (by decide) rfl ?_
      refine ab_goto (tgt := 2) dX12_canStop_26 (by decide) ?_
      refine ab_sub (ls' := [(0, .ref 200), (1, .int (iI (s : Int))), (2, .int (iI (p : Int))), (3, .int (iI ((y : Int) + 1)))]) (ks := [1, 2, 3, 0]) rfl ?_
      first | exact k1 (allf_iff.mpr (fun j a b => hI j a (by omega))) | exact ih _ (by omega) (y + 1) h rfl rfl (by omega) (by omega) (fun j a b => if e : j = y then (by rw [e]; assumption) else hI j a (by omega)) | exact k0 (fun q => gL ⟨by omega, allf_iff.mp q y (by omega) (by omega)⟩)
    · skip
      try simp only [Int.toNat_natCast] at g15
      have gL := g15
      show ab_X (d + 2) mX12_canStop 18 [(0, .ref 200), (1, .int (iI (s : Int))), (2, .int (iI (p : Int))), (3, .int (iI (y : Int)))] [.int (iI 0)] h _
      refine z_if_ne (tgt := 23) dX12_canStop_18 (by decide) (by decide) (fun c18 => absurd c18 (by decide)) (fun _ => ?_)
      refine z_iconst dX12_canStop_21 ?_
      refine z_zret dX12_canStop_22 rfl (Or.inl rfl) ?_
      first | exact k1 (allf_iff.mpr (fun j a b => hI j a (by omega))) | exact ih _ (by omega) (y + 1) h rfl rfl (by omega) (by omega) (fun j a b => if e : j = y then (by rw [e]; assumption) else hI j a (by omega)) | exact k0 (fun q => gL ⟨by omega, allf_iff.mp q y (by omega) (by omega)⟩)
theorem c_mcanStop {d : Nat} {h : ab_H} {Q : ab_Q} {n s p L : Nat} (hn : zv h 200 32 = n) (hn2 : n ≤ 20) (hs : s < 4) (hL : zv h 207 (2 * s) = L) (hL2 : L ≤ 9) (hp : p ≤ 1000) (k1 : allf (mfr h n) L p = true → Q (some (.int (iI 1))) h) (k0 : ¬ allf (mfr h n) L p = true → Q (some (.int (iI 0))) h) : ab_X (d + 2) mX12_canStop 0 (lv_args 0 [.ref 200, .int (iI (s : Int)), .int (iI (p : Int))]) [] h Q := by
  show ab_X (d + 2) mX12_canStop 0 [(0, .ref 200), (1, .int (iI (s : Int))), (2, .int (iI (p : Int)))] [] h Q
  refine ab_iload_n (k := 2) dX12_canStop_0 rfl rfl ?_
  refine ab_istore_n (ls' := [(3, .int (iI (p : Int))), (0, .ref 200), (1, .int (iI (s : Int))), (2, .int (iI (p : Int)))]) dX12_canStop_1 rfl (by decide) rfl ?_
  refine ab_sub (ls' := [(0, .ref 200), (1, .int (iI (s : Int))), (2, .int (iI (p : Int))), (3, .int (iI (p : Int)))]) (ks := [1, 2, 3, 0]) rfl ?_
  exact lp_canStop hn hn2 hs hL hL2 hp k1 k0 _ p h rfl rfl (Nat.le_refl p) (by omega) (fun j a b => by omega)
def pU (fr : Nat → Bool) (L n : Nat) : List Nat := (List.range n).filter (allf fr L)
theorem pU_t {fr : Nat → Bool} {L y : Nat} (h : allf fr L y = true) : pU fr L (y + 1) = pU fr L y ++ [y] := by
  unfold pU; rw [List.range_succ, List.filter_append, List.filter_cons_of_pos h]; rfl
theorem pU_f {fr : Nat → Bool} {L y : Nat} (h : ¬ allf fr L y = true) : pU fr L (y + 1) = pU fr L y := by
  unfold pU; rw [List.range_succ, List.filter_append, List.filter_cons_of_neg h]; simp
theorem pU_len (fr : Nat → Bool) (L : Nat) : ∀ y, (pU fr L y).length ≤ y
  | 0 => Nat.le_refl 0
  | y + 1 => by
    have := pU_len fr L y
    by_cases h : allf fr L y = true
    · rw [pU_t h, List.length_append]; simp; omega
    · rw [pU_f h]; omega
theorem pU_pls {fr : Nat → Bool} {L n : Nat} (hL : 1 ≤ L) (hf : ∀ y, n ≤ y → ¬ fr y = true) : pU fr L n = pls fr L n := by
  have key : ∀ k, n + 1 - L + k ≤ n → pU fr L (n + 1 - L + k) = pls fr L n := by
    intro k
    induction k with
    | zero => intro _; rfl
    | succ k ih =>
      intro hk
      rw [show n + 1 - L + (k + 1) = (n + 1 - L + k) + 1 by omega, pU_f, ih (by omega)]
      intro q
      exact hf (n + 1 - L + k + L - 1) (by omega) (allf_iff.mp q _ (by omega) (by omega))
  by_cases h : n + 1 - L ≤ n
  · have := key (n - (n + 1 - L)) (by omega)
    rw [show n + 1 - L + (n - (n + 1 - L)) = n by omega] at this
    exact this
  · omega
theorem pU_get {fr : Nat → Bool} {L y : Nat} (h : allf fr L y = true) : ∀ m, y < m → (pU fr L m)[(pU fr L y).length]? = some y
  | 0, hm => absurd hm (by omega)
  | m + 1, hm => by
    by_cases e : y = m
    · subst e
      rw [pU_t h, List.getElem?_append_right (Nat.le_refl _), Nat.sub_self]; rfl
    · have ih := pU_get h m (by omega)
      by_cases q : allf fr L m = true
      · rw [pU_t q, List.getElem?_append_left (List.getElem?_eq_some_iff.mp ih).1]; exact ih
      · rw [pU_f q]; exact ih
theorem mfr_end {h : ab_H} {n y : Nat} (hy : n ≤ y) : ¬ mfr h n y = true := fun q => absurd (mfr_iff.mp q).1 (by omega)
theorem lp_fitMany {d : Nat} {Q : ab_Q} {h0 : ab_H} {n s L : Nat} (hn : zv h0 200 32 = n) (hn2 : n ≤ 20) (hs : s < 4) (hL : zv h0 207 (2 * s) = L) (hL2 : L ≤ 9) (K : Q (some (.int (iI ((pU (mfr h0 n) L n).length : Int)))) h0) : ∀ (nn : Nat) (y : Nat) (a : Nat) (h : ab_H), n - y = nn → (h = h0) → (y ≤ n) → (a = (pU (mfr h0 n) L y).length) → ab_X (d + 3) mX12_fitMany 4 [(0, .ref 200), (1, .int (iI (s : Int))), (2, .int (iI (a : Int))), (3, .int (iI (y : Int)))] [] h Q := by
  intro nn
  induction nn using Nat.strongRecOn with
  | ind nn ih =>
  intro y a h hnn hh h2 ha
  subst hh
  have hpl := pU_len (mfr h n) L y
  refine ab_iload_n (k := 3) dX12_fitMany_4 rfl rfl ?_
  refine ab_aload_n (k := 0) dX12_fitMany_5 rfl rfl ?_
  refine z_getI dX12_fitMany_6 fX12_290 rfl (Or.inl rfl) ?_
  refine z_is (y := (n : Int)) hn ?_
  refine z_icmp_ge (tgt := 35) dX12_fitMany_9 (by decide) (by omega) (by omega) (fun c9 => ?_) (fun c9 => ?_)
  · skip
    refine ab_iload_n (k := 2) dX12_fitMany_35 rfl rfl ?_
    refine z_iret dX12_fitMany_36 rfl ?_
    have e : y = n := by omega
    subst e
    rw [ha]
    exact K
  · skip
    refine ab_iload_n (k := 2) dX12_fitMany_12 rfl rfl ?_
    refine ab_aload_n (k := 0) dX12_fitMany_13 rfl rfl ?_
    refine ab_iload_n (k := 1) dX12_fitMany_14 rfl rfl ?_
    refine ab_iload_n (k := 3) dX12_fitMany_15 rfl rfl ?_
    refine ab_callV (As := [.int (iI (s : Int)), .int (iI (y : Int))]) (rest := [.int (iI (a : Int))]) dX12_fitMany_16 lX12_318 rfl (Nat.le_of_ble_eq_true rfl) (Nat.le_of_ble_eq_true rfl) rfl ?_
    refine c_mcanStop hn hn2 hs hL hL2 (by omega) (fun g16 => ?_) (fun g16 => ?_)
    · skip
      try simp only [Int.toNat_natCast] at g16
      have gL := g16
      show ab_X (d + 3) mX12_fitMany 19 [(0, .ref 200), (1, .int (iI (s : Int))), (2, .int (iI (a : Int))), (3, .int (iI (y : Int)))] [.int (iI 1), .int (iI (a : Int))] h _
      refine z_if_eq (tgt := 26) dX12_fitMany_19 (by decide) (by decide) (fun c19 => absurd c19 (by decide)) (fun _ => ?_)
      refine z_iconst dX12_fitMany_22 ?_
      refine ab_goto (tgt := 27) dX12_fitMany_23 (by decide) ?_
      refine z_iadd dX12_fitMany_27 ?_
      refine ab_istore_n (ls' := [(2, .int (iI ((a : Int) + 1))), (0, .ref 200), (1, .int (iI (s : Int))), (3, .int (iI (y : Int)))]) dX12_fitMany_28 rfl (by decide) rfl ?_
      refine z_iinc (k := 3) (v := (y : Int) + 1) (ls' := [(3, .int (iI ((y : Int) + 1))), (2, .int (iI ((a : Int) + 1))), (0, .ref 200), (1, .int (iI (s : Int)))]) dX12_fitMany_29 rfl rfl (by decide) rfl ?_
      refine ab_goto (tgt := 4) dX12_fitMany_32 (by decide) ?_
      refine ab_sub (ls' := [(0, .ref 200), (1, .int (iI (s : Int))), (2, .int (iI ((a : Int) + 1))), (3, .int (iI ((y : Int) + 1)))]) (ks := [2, 3, 1, 0]) rfl ?_
      exact ih _ (by omega) (y + 1) (a + 1) h rfl rfl (by omega) (by rw [pU_t (by assumption), ha, List.length_append]; rfl)
    · skip
      try simp only [Int.toNat_natCast] at g16
      have gL := g16
      show ab_X (d + 3) mX12_fitMany 19 [(0, .ref 200), (1, .int (iI (s : Int))), (2, .int (iI (a : Int))), (3, .int (iI (y : Int)))] [.int (iI 0), .int (iI (a : Int))] h _
      refine z_if_eq (tgt := 26) dX12_fitMany_19 (by decide) (by decide) (fun _ => ?_) (fun c19 => absurd c19 (by decide))
      refine z_iconst dX12_fitMany_26 ?_
      refine z_iadd dX12_fitMany_27 ?_
      refine ab_istore_n (ls' := [(2, .int (iI ((a : Int) + 0))), (0, .ref 200), (1, .int (iI (s : Int))), (3, .int (iI (y : Int)))]) dX12_fitMany_28 rfl (by decide) rfl ?_
      refine z_iinc (k := 3) (v := (y : Int) + 1) (ls' := [(3, .int (iI ((y : Int) + 1))), (2, .int (iI ((a : Int) + 0))), (0, .ref 200), (1, .int (iI (s : Int)))]) dX12_fitMany_29 rfl rfl (by decide) rfl ?_
      refine ab_goto (tgt := 4) dX12_fitMany_32 (by decide) ?_
      refine ab_sub (ls' := [(0, .ref 200), (1, .int (iI (s : Int))), (2, .int (iI ((a : Int) + 0))), (3, .int (iI ((y : Int) + 1)))]) (ks := [2, 3, 1, 0]) rfl ?_
      exact ih _ (by omega) (y + 1) a h rfl rfl (by omega) (by rw [pU_f (by assumption), ha])
theorem c_fitMany {d : Nat} {h : ab_H} {Q : ab_Q} {n s L : Nat} (hn : zv h 200 32 = n) (hn2 : n ≤ 20) (hs : s < 4) (hL : zv h 207 (2 * s) = L) (hL2 : L ≤ 9) (K : Q (some (.int (iI ((pU (mfr h n) L n).length : Int)))) h) : ab_X (d + 3) mX12_fitMany 0 (lv_args 0 [.ref 200, .int (iI (s : Int))]) [] h Q := by
  show ab_X (d + 3) mX12_fitMany 0 [(0, .ref 200), (1, .int (iI (s : Int)))] [] h Q
  refine z_iconst dX12_fitMany_0 ?_
  refine ab_istore_n (ls' := [(2, .int (iI 0)), (0, .ref 200), (1, .int (iI (s : Int)))]) dX12_fitMany_1 rfl (by decide) rfl ?_
  refine z_iconst dX12_fitMany_2 ?_
  refine ab_istore_n (ls' := [(3, .int (iI 0)), (2, .int (iI 0)), (0, .ref 200), (1, .int (iI (s : Int)))]) dX12_fitMany_3 rfl (by decide) rfl ?_
  refine ab_sub (ls' := [(0, .ref 200), (1, .int (iI (s : Int))), (2, .int (iI 0)), (3, .int (iI 0))]) (ks := [2, 3, 1, 0]) rfl ?_
  exact lp_fitMany hn hn2 hs hL hL2 K _ 0 0 h rfl rfl (by omega) rfl
theorem lp_mfits {d : Nat} {Q : ab_Q} {h0 : ab_H} {n s L : Nat} {i : Int} (hn : zv h0 200 32 = n) (hn2 : n ≤ 20) (hs : s < 4) (hL : zv h0 207 (2 * s) = L) (hL2 : L ≤ 9) (hi : inR i ∧ -1 ≤ i) (k1 : i = -1 → Q (some (.int (iI ((pU (mfr h0 n) L n).length : Int)))) h0) (k2 : ∀ p : Nat, 0 ≤ i → (pU (mfr h0 n) L n)[i.toNat]? = some p → Q (some (.int (iI (p : Int)))) h0) (k3 : 0 ≤ i → (pU (mfr h0 n) L n)[i.toNat]? = none → Q (some (.int (iI (-1)))) h0) : ∀ (nn : Nat) (y : Nat) (a : Nat) (h : ab_H), n - y = nn → (h = h0) → (y ≤ n) → (a = (pU (mfr h0 n) L y).length) → (i < a → i = -1) → ab_X (d + 3) mX12_fits 25 [(0, .ref 200), (1, .int (iI (s : Int))), (2, .int (iI i)), (3, .int (iI (a : Int))), (4, .int (iI (y : Int)))] [] h Q := by
  intro nn
  induction nn using Nat.strongRecOn with
  | ind nn ih =>
  intro y a h hnn hh h2 ha hI
  subst hh
  have hpl := pU_len (mfr h n) L y
  refine ab_iload (k := 4) dX12_fits_25 rfl ?_
  refine ab_aload_n (k := 0) dX12_fits_27 rfl rfl ?_
  refine z_getI dX12_fits_28 fX12_290 rfl (Or.inl rfl) ?_
  refine z_is (y := (n : Int)) hn ?_
  refine z_icmp_ge (tgt := 64) dX12_fits_31 (by decide) (by omega) (by omega) (fun c31 => ?_) (fun c31 => ?_)
  · skip
    refine ab_iload_n (k := 2) dX12_fits_64 rfl rfl ?_
    refine z_iconst dX12_fits_65 ?_
    refine z_icmp_ne (tgt := 73) dX12_fits_66 (by decide) (by omega) (by decide) (fun c66 => ?_) (fun c66 => ?_)
    · skip
      refine z_iconst dX12_fits_73 ?_
      refine z_iret dX12_fits_74 rfl ?_
      have e : y = n := by omega
      subst e
      exact k3 (by omega) (List.getElem?_eq_none (by omega))
    · skip
      refine ab_iload_n (k := 3) dX12_fits_69 rfl rfl ?_
      refine ab_goto (tgt := 74) dX12_fits_70 (by decide) ?_
      refine z_iret dX12_fits_74 rfl ?_
      have e : y = n := by omega
      subst e
      rw [ha]
      exact k1 (by omega)
  · skip
    refine ab_aload_n (k := 0) dX12_fits_34 rfl rfl ?_
    refine ab_iload_n (k := 1) dX12_fits_35 rfl rfl ?_
    refine ab_iload (k := 4) dX12_fits_36 rfl ?_
    refine ab_callV (As := [.int (iI (s : Int)), .int (iI (y : Int))]) (rest := []) dX12_fits_38 lX12_318 rfl (Nat.le_of_ble_eq_true rfl) (Nat.le_of_ble_eq_true rfl) rfl ?_
    refine c_mcanStop hn hn2 hs hL hL2 (by omega) (fun g38 => ?_) (fun g38 => ?_)
    · skip
      try simp only [Int.toNat_natCast] at g38
      have gL := g38
      show ab_X (d + 3) mX12_fits 41 [(0, .ref 200), (1, .int (iI (s : Int))), (2, .int (iI i)), (3, .int (iI (a : Int))), (4, .int (iI (y : Int)))] [.int (iI 1)] h _
      refine z_if_ne (tgt := 47) dX12_fits_41 (by decide) (by decide) (fun _ => ?_) (fun c41 => absurd c41 (by decide))
      refine ab_iload_n (k := 3) dX12_fits_47 rfl rfl ?_
      refine ab_iload_n (k := 2) dX12_fits_48 rfl rfl ?_
      refine z_icmp_ne (tgt := 55) dX12_fits_49 (by decide) (by omega) (by omega) (fun c49 => ?_) (fun c49 => ?_)
      · skip
        refine z_iinc (k := 3) (v := (a : Int) + 1) (ls' := [(3, .int (iI ((a : Int) + 1))), (0, .ref 200), (1, .int (iI (s : Int))), (2, .int (iI i)), (4, .int (iI (y : Int)))]) dX12_fits_55 rfl rfl (by decide) rfl ?_
        refine z_iinc (k := 4) (v := (y : Int) + 1) (ls' := [(4, .int (iI ((y : Int) + 1))), (3, .int (iI ((a : Int) + 1))), (0, .ref 200), (1, .int (iI (s : Int))), (2, .int (iI i))]) dX12_fits_58 rfl rfl (by decide) rfl ?_
        refine ab_goto (tgt := 25) dX12_fits_61 (by decide) ?_
        refine ab_sub (ls' := [(0, .ref 200), (1, .int (iI (s : Int))), (2, .int (iI i)), (3, .int (iI ((a : Int) + 1))), (4, .int (iI ((y : Int) + 1)))]) (ks := [2, 3, 4, 1, 0]) rfl ?_
        exact ih _ (by omega) (y + 1) (a + 1) h rfl rfl (by omega) (by rw [pU_t gL, ha, List.length_append]; rfl) (by omega)
      · skip
        refine ab_iload (k := 4) dX12_fits_52 rfl ?_
        refine z_iret dX12_fits_54 rfl ?_
        exact k2 y (by omega) (by rw [show i.toNat = (pU (mfr h n) L y).length by omega]; exact pU_get gL n (by omega))
    · skip
      try simp only [Int.toNat_natCast] at g38
      have gL := g38
      show ab_X (d + 3) mX12_fits 41 [(0, .ref 200), (1, .int (iI (s : Int))), (2, .int (iI i)), (3, .int (iI (a : Int))), (4, .int (iI (y : Int)))] [.int (iI 0)] h _
      refine z_if_ne (tgt := 47) dX12_fits_41 (by decide) (by decide) (fun c41 => absurd c41 (by decide)) (fun _ => ?_)
      refine ab_goto (tgt := 58) dX12_fits_44 (by decide) ?_
      refine z_iinc (k := 4) (v := (y : Int) + 1) (ls' := [(4, .int (iI ((y : Int) + 1))), (0, .ref 200), (1, .int (iI (s : Int))), (2, .int (iI i)), (3, .int (iI (a : Int)))]) dX12_fits_58 rfl rfl (by decide) rfl ?_
      refine ab_goto (tgt := 25) dX12_fits_61 (by decide) ?_
      refine ab_sub (ls' := [(0, .ref 200), (1, .int (iI (s : Int))), (2, .int (iI i)), (3, .int (iI (a : Int))), (4, .int (iI ((y : Int) + 1)))]) (ks := [1, 2, 3, 4, 0]) rfl ?_
      exact ih _ (by omega) (y + 1) a h rfl rfl (by omega) (by rw [pU_f gL, ha]) hI
theorem c_mfits {d : Nat} {h : ab_H} {Q : ab_Q} {h9 : ab_H} {n s L : Nat} {i : Int} (e9 : zp h 200 0 0 = h9) (hn : zv h9 200 32 = n) (hn2 : n ≤ 20) (hs : s < 4) (hL : zv h9 207 (2 * s) = L) (hL2 : L ≤ 9) (hi : inR i) (k0 : ¬ ((s : Int) < zv h9 200 24 ∧ -1 ≤ i) → Q (some (.int (iI (-1)))) h9) (k1 : i = -1 → Q (some (.int (iI ((pU (mfr h9 n) L n).length : Int)))) h9) (k2 : ∀ p : Nat, 0 ≤ i → (pU (mfr h9 n) L n)[i.toNat]? = some p → Q (some (.int (iI (p : Int)))) h9) (k3 : 0 ≤ i → (pU (mfr h9 n) L n)[i.toNat]? = none → Q (some (.int (iI (-1)))) h9) : ab_X (d + 3) mX12_fits 0 (lv_args 0 [.ref 200, .int (iI (s : Int)), .int (iI i)]) [] h Q := by
  show ab_X (d + 3) mX12_fits 0 [(0, .ref 200), (1, .int (iI (s : Int))), (2, .int (iI i))] [] h Q
  refine ab_aload_n (k := 0) dX12_fits_0 rfl rfl ?_
  refine z_iconst dX12_fits_1 ?_
  refine z_putI dX12_fits_2 fX12_111 rfl rfl ?_
  rw [e9]
  refine ab_aload_n (k := 0) dX12_fits_5 rfl rfl ?_
  refine ab_iload_n (k := 1) dX12_fits_6 rfl rfl ?_
  refine ab_callV (As := [.int (iI (s : Int))]) (rest := []) dX12_fits_7 lX12_307 rfl (Nat.le_of_ble_eq_true rfl) (Nat.le_of_ble_eq_true rfl) rfl ?_
  refine c_misSort (by omega) (fun g7 => ?_) (fun g7 => ?_)
  · skip
    try simp only [Int.toNat_natCast] at g7
    have gL := g7
    show ab_X (d + 3) mX12_fits 10 [(0, .ref 200), (1, .int (iI (s : Int))), (2, .int (iI i))] [.int (iI 1)] h9 _
    refine z_if_eq (tgt := 18) dX12_fits_10 (by decide) (by decide) (fun c10 => absurd c10 (by decide)) (fun _ => ?_)
    refine ab_iload_n (k := 2) dX12_fits_13 rfl rfl ?_
    refine z_iconst dX12_fits_14 ?_
    refine z_icmp_ge (tgt := 20) dX12_fits_15 (by decide) (by omega) (by decide) (fun c15 => ?_) (fun c15 => ?_)
    · skip
      refine z_iconst dX12_fits_20 ?_
      refine ab_istore_n (ls' := [(3, .int (iI 0)), (0, .ref 200), (1, .int (iI (s : Int))), (2, .int (iI i))]) dX12_fits_21 rfl (by decide) rfl ?_
      refine z_iconst dX12_fits_22 ?_
      refine ab_istore (ls' := [(4, .int (iI 0)), (3, .int (iI 0)), (0, .ref 200), (1, .int (iI (s : Int))), (2, .int (iI i))]) dX12_fits_23 (by decide) rfl ?_
      refine ab_sub (ls' := [(0, .ref 200), (1, .int (iI (s : Int))), (2, .int (iI i)), (3, .int (iI 0)), (4, .int (iI 0))]) (ks := [2, 3, 4, 1, 0]) rfl ?_
      first | exact lp_mfits hn hn2 hs hL hL2 (by omega) k1 k2 k3 _ 0 0 h9 rfl rfl (by omega) rfl (by omega) | exact k0 (by omega)
    · skip
      refine z_iconst dX12_fits_18 ?_
      refine z_iret dX12_fits_19 rfl ?_
      first | exact lp_mfits hn hn2 hs hL hL2 (by omega) k1 k2 k3 _ 0 0 h9 rfl rfl (by omega) rfl (by omega) | exact k0 (by omega)
  · skip
    try simp only [Int.toNat_natCast] at g7
    have gL := g7
    show ab_X (d + 3) mX12_fits 10 [(0, .ref 200), (1, .int (iI (s : Int))), (2, .int (iI i))] [.int (iI 0)] h9 _
    refine z_if_eq (tgt := 18) dX12_fits_10 (by decide) (by decide) (fun _ => ?_) (fun c10 => absurd c10 (by decide))
    refine z_iconst dX12_fits_18 ?_
    refine z_iret dX12_fits_19 rfl ?_
    first | exact lp_mfits hn hn2 hs hL hL2 (by omega) k1 k2 k3 _ 0 0 h9 rfl rfl (by omega) rfl (by omega) | exact k0 (by omega)
theorem c_mfits0 {d : Nat} {h : ab_H} {Q : ab_Q} {h9 : ab_H} {s i : Int} (e9 : zp h 200 0 0 = h9) (hs : inR s) (hi : inR i) (hno : ¬ (0 ≤ s ∧ s < zv h9 200 24)) (k0 : Q (some (.int (iI (-1)))) h9) : ab_X (d + 3) mX12_fits 0 (lv_args 0 [.ref 200, .int (iI s), .int (iI i)]) [] h Q := by
  show ab_X (d + 3) mX12_fits 0 [(0, .ref 200), (1, .int (iI s)), (2, .int (iI i))] [] h Q
  refine ab_aload_n (k := 0) dX12_fits_0 rfl rfl ?_
  refine z_iconst dX12_fits_1 ?_
  refine z_putI dX12_fits_2 fX12_111 rfl rfl ?_
  rw [e9]
  refine ab_aload_n (k := 0) dX12_fits_5 rfl rfl ?_
  refine ab_iload_n (k := 1) dX12_fits_6 rfl rfl ?_
  refine ab_callV (As := [.int (iI s)]) (rest := []) dX12_fits_7 lX12_307 rfl (Nat.le_of_ble_eq_true rfl) (Nat.le_of_ble_eq_true rfl) rfl ?_
  refine c_misSort (by omega) (fun g7 => ?_) (fun g7 => ?_)
  · skip
    try simp only [Int.toNat_natCast] at g7
    have gL := g7
    show ab_X (d + 3) mX12_fits 10 [(0, .ref 200), (1, .int (iI s)), (2, .int (iI i))] [.int (iI 1)] h9 _
    refine z_if_eq (tgt := 18) dX12_fits_10 (by decide) (by decide) (fun c10 => absurd c10 (by decide)) (fun _ => ?_)
    refine ab_iload_n (k := 2) dX12_fits_13 rfl rfl ?_
    refine z_iconst dX12_fits_14 ?_
    refine z_icmp_ge (tgt := 20) dX12_fits_15 (by decide) (by omega) (by decide) (fun c15 => ?_) (fun c15 => ?_)
    · skip
      refine z_iconst dX12_fits_20 ?_
      refine ab_istore_n (ls' := [(3, .int (iI 0)), (0, .ref 200), (1, .int (iI s)), (2, .int (iI i))]) dX12_fits_21 rfl (by decide) rfl ?_
      refine z_iconst dX12_fits_22 ?_
      refine ab_istore (ls' := [(4, .int (iI 0)), (3, .int (iI 0)), (0, .ref 200), (1, .int (iI s)), (2, .int (iI i))]) dX12_fits_23 (by decide) rfl ?_
      refine ab_sub (ls' := [(0, .ref 200), (1, .int (iI s)), (2, .int (iI i)), (3, .int (iI 0)), (4, .int (iI 0))]) (ks := [2, 3, 4, 1, 0]) rfl ?_
      first | exact k0 | exact absurd gL hno
    · skip
      refine z_iconst dX12_fits_18 ?_
      refine z_iret dX12_fits_19 rfl ?_
      first | exact k0 | exact absurd gL hno
  · skip
    try simp only [Int.toNat_natCast] at g7
    have gL := g7
    show ab_X (d + 3) mX12_fits 10 [(0, .ref 200), (1, .int (iI s)), (2, .int (iI i))] [.int (iI 0)] h9 _
    refine z_if_eq (tgt := 18) dX12_fits_10 (by decide) (by decide) (fun _ => ?_) (fun c10 => absurd c10 (by decide))
    refine z_iconst dX12_fits_18 ?_
    refine z_iret dX12_fits_19 rfl ?_
    first | exact k0 | exact absurd gL hno
theorem lp_carMany {d : Nat} {Q : ab_Q} {h0 : ab_H} {n : Nat} (hn : zv h0 200 32 = n) (hn2 : n ≤ 20) (K : Q (some (.int (iI (cB (zv h0 211) n : Int)))) h0) : ∀ (nn : Nat) (y : Nat) (a : Nat) (h : ab_H), n - y = nn → (h = h0) → (y ≤ n) → (a = cB (zv h0 211) y) → ab_X d mX12_carMany 4 [(0, .ref 200), (1, .int (iI (a : Int))), (2, .int (iI (y : Int)))] [] h Q := by
  intro nn
  induction nn using Nat.strongRecOn with
  | ind nn ih =>
  intro y a h hnn hh h2 ha
  subst hh
  have hpl := cB_le (zv h 211) y
  refine ab_iload_n (k := 2) dX12_carMany_4 rfl rfl ?_
  refine ab_aload_n (k := 0) dX12_carMany_5 rfl rfl ?_
  refine z_getI dX12_carMany_6 fX12_290 rfl (Or.inl rfl) ?_
  refine z_is (y := (n : Int)) hn ?_
  refine z_icmp_ge (tgt := 36) dX12_carMany_9 (by decide) (by omega) (by omega) (fun c9 => ?_) (fun c9 => ?_)
  · skip
    refine ab_iload_n (k := 1) dX12_carMany_36 rfl rfl ?_
    refine z_iret dX12_carMany_37 rfl ?_
    first | (have e : y = n := (by omega); subst e; rw [ha]; exact K) | exact ih _ (by omega) (y + 1) (a + 1) h rfl rfl (by omega) (by rw [ha, cB_s, if_pos (by omega)]) | exact ih _ (by omega) (y + 1) a h rfl rfl (by omega) (by rw [ha, cB_s, if_neg (by omega)]; rfl)
  · skip
    refine ab_iload_n (k := 1) dX12_carMany_12 rfl rfl ?_
    refine ab_aload_n (k := 0) dX12_carMany_13 rfl rfl ?_
    refine z_getP (b := 211) dX12_carMany_14 fX12_55 rfl rfl rfl ?_
    refine ab_iload_n (k := 2) dX12_carMany_17 rfl rfl ?_
    refine z_iald dX12_carMany_18 rfl (by omega) (by omega) ?_
    simp only [Int.toNat_natCast]
    have b1 := zv_R h 211 y
    refine ab_iload_n (k := 2) dX12_carMany_19 rfl rfl ?_
    refine z_icmp_ne (tgt := 27) dX12_carMany_20 (by decide) (by omega) (by omega) (fun c20 => ?_) (fun c20 => ?_)
    · skip
      refine z_iconst dX12_carMany_27 ?_
      refine z_iadd dX12_carMany_28 ?_
      refine ab_istore_n (ls' := [(1, .int (iI ((a : Int) + 0))), (0, .ref 200), (2, .int (iI (y : Int)))]) dX12_carMany_29 rfl (by decide) rfl ?_
      refine z_iinc (k := 2) (v := (y : Int) + 1) (ls' := [(2, .int (iI ((y : Int) + 1))), (1, .int (iI ((a : Int) + 0))), (0, .ref 200)]) dX12_carMany_30 rfl rfl (by decide) rfl ?_
      refine ab_goto (tgt := 4) dX12_carMany_33 (by decide) ?_
      refine ab_sub (ls' := [(0, .ref 200), (1, .int (iI ((a : Int) + 0))), (2, .int (iI ((y : Int) + 1)))]) (ks := [2, 1, 0]) rfl ?_
      first | (have e : y = n := (by omega); subst e; rw [ha]; exact K) | exact ih _ (by omega) (y + 1) (a + 1) h rfl rfl (by omega) (by rw [ha, cB_s, if_pos (by omega)]) | exact ih _ (by omega) (y + 1) a h rfl rfl (by omega) (by rw [ha, cB_s, if_neg (by omega)]; rfl)
    · skip
      refine z_iconst dX12_carMany_23 ?_
      refine ab_goto (tgt := 28) dX12_carMany_24 (by decide) ?_
      refine z_iadd dX12_carMany_28 ?_
      refine ab_istore_n (ls' := [(1, .int (iI ((a : Int) + 1))), (0, .ref 200), (2, .int (iI (y : Int)))]) dX12_carMany_29 rfl (by decide) rfl ?_
      refine z_iinc (k := 2) (v := (y : Int) + 1) (ls' := [(2, .int (iI ((y : Int) + 1))), (1, .int (iI ((a : Int) + 1))), (0, .ref 200)]) dX12_carMany_30 rfl rfl (by decide) rfl ?_
      refine ab_goto (tgt := 4) dX12_carMany_33 (by decide) ?_
      refine ab_sub (ls' := [(0, .ref 200), (1, .int (iI ((a : Int) + 1))), (2, .int (iI ((y : Int) + 1)))]) (ks := [2, 1, 0]) rfl ?_
      first | (have e : y = n := (by omega); subst e; rw [ha]; exact K) | exact ih _ (by omega) (y + 1) (a + 1) h rfl rfl (by omega) (by rw [ha, cB_s, if_pos (by omega)]) | exact ih _ (by omega) (y + 1) a h rfl rfl (by omega) (by rw [ha, cB_s, if_neg (by omega)]; rfl)
theorem c_carMany {d : Nat} {h : ab_H} {Q : ab_Q} {n : Nat} (hn : zv h 200 32 = n) (hn2 : n ≤ 20) (K : Q (some (.int (iI (cB (zv h 211) n : Int)))) h) : ab_X d mX12_carMany 0 (lv_args 0 [.ref 200]) [] h Q := by
  show ab_X d mX12_carMany 0 [(0, .ref 200)] [] h Q
  refine z_iconst dX12_carMany_0 ?_
  refine ab_istore_n (ls' := [(1, .int (iI 0)), (0, .ref 200)]) dX12_carMany_1 rfl (by decide) rfl ?_
  refine z_iconst dX12_carMany_2 ?_
  refine ab_istore_n (ls' := [(2, .int (iI 0)), (1, .int (iI 0)), (0, .ref 200)]) dX12_carMany_3 rfl (by decide) rfl ?_
  refine ab_sub (ls' := [(0, .ref 200), (1, .int (iI 0)), (2, .int (iI 0))]) (ks := [2, 1, 0]) rfl ?_
  exact lp_carMany hn hn2 K _ 0 0 h rfl rfl (by omega) rfl
def rr (fr : Nat → Bool) : Nat → Nat → Nat
  | 0, _ => 0
  | k + 1, p => if fr p = true then rr fr k (p + 1) + 1 else 0
theorem rr_le (fr : Nat → Bool) : ∀ k p, rr fr k p ≤ k
  | 0, _ => Nat.le_refl 0
  | k + 1, p => by have := rr_le fr k (p + 1); unfold rr; split <;> omega
theorem rr_in (fr : Nat → Bool) : ∀ k p j, j < rr fr k p → fr (p + j) = true
  | 0, _, _, h => absurd h (by simp [rr])
  | k + 1, p, j, h => by
    unfold rr at h
    by_cases q : fr p = true
    · rw [if_pos q] at h
      cases j with
      | zero => exact q
      | succ j => rw [show p + (j + 1) = (p + 1) + j by omega]; exact rr_in fr k (p + 1) j (by omega)
    · rw [if_neg q] at h; omega
theorem rr_out (fr : Nat → Bool) : ∀ k p, rr fr k p < k → ¬ fr (p + rr fr k p) = true
  | 0, _, h => absurd h (by omega)
  | k + 1, p, h => by
    by_cases q : fr p = true
    · have e : rr fr (k + 1) p = rr fr k (p + 1) + 1 := by simp only [rr, if_pos q]
      rw [e] at h ⊢
      rw [show p + (rr fr k (p + 1) + 1) = (p + 1) + rr fr k (p + 1) by omega]
      exact rr_out fr k (p + 1) (by omega)
    · have e : rr fr (k + 1) p = 0 := by simp only [rr, if_neg q]
      rw [e]; exact q
/-- a run is known by its end -/
theorem rr_is {fr : Nat → Bool} {k p m : Nat} (h1 : ∀ j, j < m → fr (p + j) = true) (h2 : ¬ fr (p + m) = true) (hm : m ≤ k) (hk : ¬ fr (p + k) = true ∨ m < k) : rr fr k p = m := by
  have hle := rr_le fr k p
  rcases Nat.lt_trichotomy (rr fr k p) m with q | q | q
  · exact absurd (h1 _ q) (rr_out fr k p (by omega))
  · exact q
  · exact absurd (rr_in fr k p m q) h2
theorem runl_is {fr : Nat → Bool} {y m : Nat} (hm : m ≤ y) (h1 : ∀ j, y - m ≤ j → j < y → fr j = true) (h2 : m < y → ¬ fr (y - m - 1) = true) : runl fr y = m := by
  have hle := runl_le fr y
  rcases Nat.lt_trichotomy (runl fr y) m with q | q | q
  · exact absurd (h1 (y - runl fr y - 1) (by omega) (by omega)) (runl_out fr y (by omega))
  · exact q
  · exact absurd (runl_in fr y (y - m - 1) (by omega) (by omega)) (h2 (by omega))
theorem lp_freeAhead {d : Nat} {Q : ab_Q} {h0 : ab_H} {n p : Nat} (hn : zv h0 200 32 = n) (hn2 : n ≤ 20) (hp : p ≤ 20) (K : Q (some (.int (iI (runl (mfr h0 n) p : Int)))) h0) : ∀ (nn : Nat) (a : Nat) (h : ab_H), p - a = nn → (h = h0) → (a ≤ p) → (∀ j, p - a ≤ j → j < p → mfr h0 n j = true) → ab_X (d + 2) mX12_freeAhead 2 [(0, .ref 200), (1, .int (iI (p : Int))), (2, .int (iI (a : Int)))] [] h Q := by
  intro nn
  induction nn using Nat.strongRecOn with
  | ind nn ih =>
  intro a h hnn hh h2 hI
  subst hh
  refine ab_aload_n (k := 0) dX12_freeAhead_2 rfl rfl ?_
  refine ab_iload_n (k := 1) dX12_freeAhead_3 rfl rfl ?_
  refine z_iconst dX12_freeAhead_4 ?_
  refine z_isub dX12_freeAhead_5 ?_
  refine ab_iload_n (k := 2) dX12_freeAhead_6 rfl rfl ?_
  refine z_isub dX12_freeAhead_7 ?_
  refine ab_callV (As := [.int (iI (((p : Int) - 1) - (a : Int)))]) (rest := []) dX12_freeAhead_8 lX12_315 rfl (Nat.le_of_ble_eq_true rfl) (Nat.le_of_ble_eq_true rfl) rfl ?_
  refine c_misFree hn hn2 (by omega) (fun z8 g8 => ?_) (fun g8 => ?_)
  · skip
    try simp only [Int.toNat_natCast] at g8
    have gL := g8
    show ab_X (d + 2) mX12_freeAhead 11 [(0, .ref 200), (1, .int (iI (p : Int))), (2, .int (iI (a : Int)))] [.int (iI 1)] h _
    refine z_if_eq (tgt := 20) dX12_freeAhead_11 (by decide) (by decide) (fun c11 => absurd c11 (by decide)) (fun _ => ?_)
    refine z_iinc (k := 2) (v := (a : Int) + 1) (ls' := [(2, .int (iI ((a : Int) + 1))), (0, .ref 200), (1, .int (iI (p : Int)))]) dX12_freeAhead_14 rfl rfl (by decide) rfl ?_
    refine ab_goto (tgt := 2) dX12_freeAhead_17 (by decide) ?_
    refine ab_sub (ls' := [(0, .ref 200), (1, .int (iI (p : Int))), (2, .int (iI ((a : Int) + 1)))]) (ks := [1, 2, 0]) rfl ?_
    first | exact ih _ (by omega) (a + 1) h rfl rfl (by omega) (fun j x y => if e : j = p - a - 1 then (by rw [e, show p - a - 1 = (((p : Int) - 1) - a).toNat by omega]; exact gL) else hI j (by omega) y) | (have e := runl_is (fr := mfr h n) h2 hI (fun q z => gL ⟨by omega, by rw [show (((p : Int) - 1) - a).toNat = p - a - 1 by omega]; exact z⟩); rw [e] at K; exact K)
  · skip
    try simp only [Int.toNat_natCast] at g8
    have gL := g8
    show ab_X (d + 2) mX12_freeAhead 11 [(0, .ref 200), (1, .int (iI (p : Int))), (2, .int (iI (a : Int)))] [.int (iI 0)] h _
    refine z_if_eq (tgt := 20) dX12_freeAhead_11 (by decide) (by decide) (fun _ => ?_) (fun c11 => absurd c11 (by decide))
    refine ab_iload_n (k := 2) dX12_freeAhead_20 rfl rfl ?_
    refine z_iret dX12_freeAhead_21 rfl ?_
    first | exact ih _ (by omega) (a + 1) h rfl rfl (by omega) (fun j x y => if e : j = p - a - 1 then (by rw [e, show p - a - 1 = (((p : Int) - 1) - a).toNat by omega]; exact gL) else hI j (by omega) y) | (have e := runl_is (fr := mfr h n) h2 hI (fun q z => gL ⟨by omega, by rw [show (((p : Int) - 1) - a).toNat = p - a - 1 by omega]; exact z⟩); rw [e] at K; exact K)
theorem c_freeAhead {d : Nat} {h : ab_H} {Q : ab_Q} {n p : Nat} (hn : zv h 200 32 = n) (hn2 : n ≤ 20) (hp : p ≤ 20) (K : Q (some (.int (iI (runl (mfr h n) p : Int)))) h) : ab_X (d + 2) mX12_freeAhead 0 (lv_args 0 [.ref 200, .int (iI (p : Int))]) [] h Q := by
  show ab_X (d + 2) mX12_freeAhead 0 [(0, .ref 200), (1, .int (iI (p : Int)))] [] h Q
  refine z_iconst dX12_freeAhead_0 ?_
  refine ab_istore_n (ls' := [(2, .int (iI 0)), (0, .ref 200), (1, .int (iI (p : Int)))]) dX12_freeAhead_1 rfl (by decide) rfl ?_
  refine ab_sub (ls' := [(0, .ref 200), (1, .int (iI (p : Int))), (2, .int (iI 0))]) (ks := [1, 2, 0]) rfl ?_
  exact lp_freeAhead hn hn2 hp K _ 0 h rfl rfl (by omega) (fun j x y => by omega)
theorem lp_freeBehind {d : Nat} {Q : ab_Q} {h0 : ab_H} {n p : Nat} (hn : zv h0 200 32 = n) (hn2 : n ≤ 20) (hp : p ≤ 40) (K : Q (some (.int (iI (rr (mfr h0 n) 40 p : Int)))) h0) : ∀ (nn : Nat) (a : Nat) (h : ab_H), 41 - a = nn → (h = h0) → (a ≤ 20) → (∀ j, j < a → mfr h0 n (p + j) = true) → ab_X (d + 2) mX12_freeBehind 2 [(0, .ref 200), (1, .int (iI (p : Int))), (2, .int (iI (a : Int)))] [] h Q := by
  intro nn
  induction nn using Nat.strongRecOn with
  | ind nn ih =>
  intro a h hnn hh h2 hI
  subst hh
  have hz : a < n + 1 := by
    rcases Nat.lt_or_ge a (n + 1) with q | q
    · exact q
    · exact absurd (hI n (by omega)) (mfr_end (by omega))
  refine ab_aload_n (k := 0) dX12_freeBehind_2 rfl rfl ?_
  refine ab_iload_n (k := 1) dX12_freeBehind_3 rfl rfl ?_
  refine ab_iload_n (k := 2) dX12_freeBehind_4 rfl rfl ?_
  refine z_iadd dX12_freeBehind_5 ?_
  refine ab_callV (As := [.int (iI ((p : Int) + (a : Int)))]) (rest := []) dX12_freeBehind_6 lX12_315 rfl (Nat.le_of_ble_eq_true rfl) (Nat.le_of_ble_eq_true rfl) rfl ?_
  refine c_misFree hn hn2 (by omega) (fun z6 g6 => ?_) (fun g6 => ?_)
  · skip
    try simp only [Int.toNat_natCast] at g6
    have gL := g6
    show ab_X (d + 2) mX12_freeBehind 9 [(0, .ref 200), (1, .int (iI (p : Int))), (2, .int (iI (a : Int)))] [.int (iI 1)] h _
    refine z_if_eq (tgt := 18) dX12_freeBehind_9 (by decide) (by decide) (fun c9 => absurd c9 (by decide)) (fun _ => ?_)
    refine z_iinc (k := 2) (v := (a : Int) + 1) (ls' := [(2, .int (iI ((a : Int) + 1))), (0, .ref 200), (1, .int (iI (p : Int)))]) dX12_freeBehind_12 rfl rfl (by decide) rfl ?_
    refine ab_goto (tgt := 2) dX12_freeBehind_15 (by decide) ?_
    refine ab_sub (ls' := [(0, .ref 200), (1, .int (iI (p : Int))), (2, .int (iI ((a : Int) + 1)))]) (ks := [1, 2, 0]) rfl ?_
    first | exact ih _ (by omega) (a + 1) h rfl rfl (by have := (mfr_iff.mp gL).1; omega) (fun j x => if e : j = a then (by rw [e, show p + a = ((p : Int) + a).toNat by omega]; exact gL) else hI j (by omega)) | (have e := rr_is (fr := mfr h n) (k := 40) (m := a) hI (fun z => gL ⟨by omega, by rw [show ((p : Int) + a).toNat = p + a by omega]; exact z⟩) (by omega) (Or.inr (by omega)); rw [e] at K; exact K)
  · skip
    try simp only [Int.toNat_natCast] at g6
    have gL := g6
    show ab_X (d + 2) mX12_freeBehind 9 [(0, .ref 200), (1, .int (iI (p : Int))), (2, .int (iI (a : Int)))] [.int (iI 0)] h _
    refine z_if_eq (tgt := 18) dX12_freeBehind_9 (by decide) (by decide) (fun _ => ?_) (fun c9 => absurd c9 (by decide))
    refine ab_iload_n (k := 2) dX12_freeBehind_18 rfl rfl ?_
    refine z_iret dX12_freeBehind_19 rfl ?_
    first | exact ih _ (by omega) (a + 1) h rfl rfl (by have := (mfr_iff.mp gL).1; omega) (fun j x => if e : j = a then (by rw [e, show p + a = ((p : Int) + a).toNat by omega]; exact gL) else hI j (by omega)) | (have e := rr_is (fr := mfr h n) (k := 40) (m := a) hI (fun z => gL ⟨by omega, by rw [show ((p : Int) + a).toNat = p + a by omega]; exact z⟩) (by omega) (Or.inr (by omega)); rw [e] at K; exact K)
theorem c_freeBehind {d : Nat} {h : ab_H} {Q : ab_Q} {n p : Nat} (hn : zv h 200 32 = n) (hn2 : n ≤ 20) (hp : p ≤ 40) (K : Q (some (.int (iI (rr (mfr h n) 40 p : Int)))) h) : ab_X (d + 2) mX12_freeBehind 0 (lv_args 0 [.ref 200, .int (iI (p : Int))]) [] h Q := by
  show ab_X (d + 2) mX12_freeBehind 0 [(0, .ref 200), (1, .int (iI (p : Int)))] [] h Q
  refine z_iconst dX12_freeBehind_0 ?_
  refine ab_istore_n (ls' := [(2, .int (iI 0)), (0, .ref 200), (1, .int (iI (p : Int)))]) dX12_freeBehind_1 rfl (by decide) rfl ?_
  refine ab_sub (ls' := [(0, .ref 200), (1, .int (iI (p : Int))), (2, .int (iI 0))]) (ks := [1, 2, 0]) rfl ?_
  exact lp_freeBehind hn hn2 hp K _ 0 h rfl rfl (by omega) (fun j x => by omega)
def gAt (fr : Nat → Bool) (y : Nat) : Nat := if fr y = true ∧ ¬ (0 < y ∧ fr (y - 1) = true) then rr fr 40 y else 0
theorem c_gapAt {d : Nat} {h : ab_H} {Q : ab_Q} {n y : Nat} (hn : zv h 200 32 = n) (hn2 : n ≤ 20) (hy : y < 20) (K : Q (some (.int (iI (gAt (mfr h n) y : Int)))) h) : ab_X (d + 3) mX12_gapAt 0 (lv_args 0 [.ref 200, .int (iI (y : Int))]) [] h Q := by
  show ab_X (d + 3) mX12_gapAt 0 [(0, .ref 200), (1, .int (iI (y : Int)))] [] h Q
  refine ab_aload_n (k := 0) dX12_gapAt_0 rfl rfl ?_
  refine ab_iload_n (k := 1) dX12_gapAt_1 rfl rfl ?_
  refine ab_callV (As := [.int (iI (y : Int))]) (rest := []) dX12_gapAt_2 lX12_315 rfl (Nat.le_of_ble_eq_true rfl) (Nat.le_of_ble_eq_true rfl) rfl ?_
  refine c_misFree hn hn2 (by omega) (fun z2 g2 => ?_) (fun g2 => ?_)
  · skip
    try simp only [Int.toNat_natCast] at g2
    have gL := g2
    show ab_X (d + 3) mX12_gapAt 5 [(0, .ref 200), (1, .int (iI (y : Int)))] [.int (iI 1)] h _
    refine z_if_eq (tgt := 26) dX12_gapAt_5 (by decide) (by decide) (fun c5 => absurd c5 (by decide)) (fun _ => ?_)
    refine ab_aload_n (k := 0) dX12_gapAt_8 rfl rfl ?_
    refine ab_iload_n (k := 1) dX12_gapAt_9 rfl rfl ?_
    refine z_iconst dX12_gapAt_10 ?_
    refine z_isub dX12_gapAt_11 ?_
    refine ab_callV (As := [.int (iI ((y : Int) - 1))]) (rest := []) dX12_gapAt_12 lX12_315 rfl (Nat.le_of_ble_eq_true rfl) (Nat.le_of_ble_eq_true rfl) rfl ?_
    refine c_misFree hn hn2 (by omega) (fun z12 g12 => ?_) (fun g12 => ?_)
    · skip
      try simp only [Int.toNat_natCast] at g12
      have gL := g12
      show ab_X (d + 3) mX12_gapAt 15 [(0, .ref 200), (1, .int (iI (y : Int)))] [.int (iI 1)] h _
      refine z_if_ne (tgt := 26) dX12_gapAt_15 (by decide) (by decide) (fun _ => ?_) (fun c15 => absurd c15 (by decide))
      refine z_iconst dX12_gapAt_26 ?_
      refine z_iret dX12_gapAt_27 rfl ?_
      have e : gAt (mfr h n) y = 0 := by unfold gAt; rw [if_neg (fun q => q.2 ⟨by omega, by rw [show y - 1 = ((y : Int) - 1).toNat by omega]; exact g12⟩)]
      rw [e] at K
      exact K
    · skip
      try simp only [Int.toNat_natCast] at g12
      have gL := g12
      show ab_X (d + 3) mX12_gapAt 15 [(0, .ref 200), (1, .int (iI (y : Int)))] [.int (iI 0)] h _
      refine z_if_ne (tgt := 26) dX12_gapAt_15 (by decide) (by decide) (fun c15 => absurd c15 (by decide)) (fun _ => ?_)
      refine ab_aload_n (k := 0) dX12_gapAt_18 rfl rfl ?_
      refine ab_iload_n (k := 1) dX12_gapAt_19 rfl rfl ?_
      refine ab_callV (As := [.int (iI (y : Int))]) (rest := []) dX12_gapAt_20 lX12_324 rfl (Nat.le_of_ble_eq_true rfl) (Nat.le_of_ble_eq_true rfl) rfl ?_
      refine c_freeBehind hn hn2 (by omega) ?_
      show ab_X (d + 3) mX12_gapAt 23 [(0, .ref 200), (1, .int (iI (y : Int)))] [.int (iI (rr (mfr h n) 40 y : Int))] h _
      refine ab_goto (tgt := 27) dX12_gapAt_23 (by decide) ?_
      refine z_iret dX12_gapAt_27 rfl ?_
      have e : gAt (mfr h n) y = rr (mfr h n) 40 y := by unfold gAt; rw [if_pos ⟨g2, fun q => g12 ⟨by omega, by rw [show ((y : Int) - 1).toNat = y - 1 by omega]; exact q.2⟩⟩]
      rw [e] at K
      exact K
  · skip
    try simp only [Int.toNat_natCast] at g2
    have gL := g2
    show ab_X (d + 3) mX12_gapAt 5 [(0, .ref 200), (1, .int (iI (y : Int)))] [.int (iI 0)] h _
    refine z_if_eq (tgt := 26) dX12_gapAt_5 (by decide) (by decide) (fun _ => ?_) (fun c5 => absurd c5 (by decide))
    refine z_iconst dX12_gapAt_26 ?_
    refine z_iret dX12_gapAt_27 rfl ?_
    have e : gAt (mfr h n) y = 0 := by unfold gAt; rw [if_neg (fun q => gL ⟨by omega, q.1⟩)]
    rw [e] at K
    exact K
