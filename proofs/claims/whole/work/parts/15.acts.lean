/-! CONTRACTS OF THE CLASS: copies of streets, acts, plan, gaps -/
/-- r is the place of a street -/
def isS (r : Nat) : Prop := ∃ a, a < 43 ∧ r = 36 + 3 * a
theorem isS_kd {r : Nat} (h : isS r) : ab_kd r = (9, 0) ∧ ab_kd (r + 1) = (20, 20) ∧ ab_kd (r + 2) = (20, 20) := by
  obtain ⟨a, ha, rfl⟩ := h
  have k : ∀ a, a < 43 → ab_kd (36 + 3 * a) = (9, 0) ∧ ab_kd (36 + 3 * a + 1) = (20, 20) ∧ ab_kd (36 + 3 * a + 2) = (20, 20) := by decide
  exact k a ha
theorem isS_P {r : Nat} (h : isS r) (t k : Nat) : ab_P t r k = r + 1 + k := by
  obtain ⟨a, ha, rfl⟩ := h
  unfold ab_P
  rw [if_neg (by omega), if_pos (by omega)]
/-- the street at r is as the one at o was -/
def cpR (h h' : ab_H) (r o : Nat) : Prop := sm [r, r + 1, r + 2] h h' ∧ (∀ j, j < 20 → zv h' (r + 1) j = zv h (o + 1) j ∧ zv h' (r + 2) j = zv h (o + 2) j) ∧ ∀ j, 2 ≤ j → j ≤ 5 → zv h' r j = zv h o j
theorem c_scopy {d : Nat} {h : ab_H} {Q : ab_Q} {r o : Nat} (hr : isS r) (ho : isS o) (hn : r ≠ o) (K : ∀ h', cpR h h' r o → Q none h') : ab_X (d + 1) mX9_copy 0 (lv_args 0 [.ref r, .ref o]) [] h Q := by
  show ab_X (d + 1) mX9_copy 0 [(0, .ref r), (1, .ref o)] [] h Q
  have hro : r + 1 ≠ o + 1 ∧ r + 1 ≠ o + 2 ∧ r + 2 ≠ o + 1 ∧ r + 2 ≠ o + 2 ∧ r + 1 ≠ o ∧ r + 2 ≠ o ∧ r ≠ o + 1 ∧ r ≠ o + 2 := by
    obtain ⟨a, ha, rfl⟩ := hr
    obtain ⟨b, hb, rfl⟩ := ho
    omega
  refine ab_aload_n (k := 1) dX9_copy_0 rfl rfl ?_
  refine z_getP (b := o + 1) dX9_copy_1 fX9_9 (isS_kd ho).1 rfl (isS_P ho _ 0) ?_
  refine z_iconst dX9_copy_4 ?_
  refine ab_aload_n (k := 0) dX9_copy_5 rfl rfl ?_
  refine z_getP (b := r + 1) dX9_copy_6 fX9_9 (isS_kd hr).1 rfl (isS_P hr _ 0) ?_
  refine z_iconst dX9_copy_9 ?_
  refine z_bipush dX9_copy_10 (by decide) ?_
  refine ab_acpi dX9_copy_12 lX9_18 (Nat.le_of_ble_eq_true rfl) (isS_kd ho).2.1 (isS_kd hr).2.1 (by decide) (by decide) (by decide) (Nat.le_of_ble_eq_true rfl) (Nat.le_of_ble_eq_true rfl) ?_
  show ab_X (d + 1) mX9_copy 15 [(0, .ref r), (1, .ref o)] [] (zc h (o + 1) (r + 1) 20) _
  refine ab_aload_n (k := 1) dX9_copy_15 rfl rfl ?_
  refine z_getP (b := o + 2) dX9_copy_16 fX9_15 (isS_kd ho).1 rfl (isS_P ho _ 1) ?_
  refine z_iconst dX9_copy_19 ?_
  refine ab_aload_n (k := 0) dX9_copy_20 rfl rfl ?_
  refine z_getP (b := r + 2) dX9_copy_21 fX9_15 (isS_kd hr).1 rfl (isS_P hr _ 1) ?_
  refine z_iconst dX9_copy_24 ?_
  refine z_bipush dX9_copy_25 (by decide) ?_
  refine ab_acpi dX9_copy_27 lX9_18 (Nat.le_of_ble_eq_true rfl) (isS_kd ho).2.2 (isS_kd hr).2.2 (by decide) (by decide) (by decide) (Nat.le_of_ble_eq_true rfl) (Nat.le_of_ble_eq_true rfl) ?_
  show ab_X (d + 1) mX9_copy 30 [(0, .ref r), (1, .ref o)] [] (zc (zc h (o + 1) (r + 1) 20) (o + 2) (r + 2) 20) _
  refine ab_aload_n (k := 0) dX9_copy_30 rfl rfl ?_
  refine ab_aload_n (k := 1) dX9_copy_31 rfl rfl ?_
  refine z_getI dX9_copy_32 fX9_24 (isS_kd ho).1 (Or.inl rfl) ?_
  refine z_is (y := zv h o 2) ((zv_zc_a hro.2.2.2.2.2.1.symm).trans (zv_zc_a hro.2.2.2.2.1.symm)) ?_
  have b1 := zv_R h o 2
  refine z_putI dX9_copy_35 fX9_24 (isS_kd hr).1 rfl ?_
  refine ab_aload_n (k := 0) dX9_copy_38 rfl rfl ?_
  refine ab_aload_n (k := 1) dX9_copy_39 rfl rfl ?_
  refine z_getI dX9_copy_40 fX9_28 (isS_kd ho).1 (Or.inl rfl) ?_
  refine z_is (y := zv h o 3) (((zv_zp_a hn.symm).trans (zv_zc_a hro.2.2.2.2.2.1.symm)).trans (zv_zc_a hro.2.2.2.2.1.symm)) ?_
  have b2 := zv_R h o 3
  refine z_putI dX9_copy_43 fX9_28 (isS_kd hr).1 rfl ?_
  refine ab_aload_n (k := 0) dX9_copy_46 rfl rfl ?_
  refine ab_aload_n (k := 1) dX9_copy_47 rfl rfl ?_
  refine z_getI dX9_copy_48 fX9_31 (isS_kd ho).1 (Or.inl rfl) ?_
  refine z_is (y := zv h o 4) ((((zv_zp_a hn.symm).trans (zv_zp_a hn.symm)).trans (zv_zc_a hro.2.2.2.2.2.1.symm)).trans (zv_zc_a hro.2.2.2.2.1.symm)) ?_
  have b3 := zv_R h o 4
  refine z_putI dX9_copy_51 fX9_31 (isS_kd hr).1 rfl ?_
  refine ab_aload_n (k := 0) dX9_copy_54 rfl rfl ?_
  refine ab_aload_n (k := 1) dX9_copy_55 rfl rfl ?_
  refine z_getI dX9_copy_56 fX9_34 (isS_kd ho).1 (Or.inl rfl) ?_
  refine z_is (y := zv h o 5) (((((zv_zp_a hn.symm).trans (zv_zp_a hn.symm)).trans (zv_zp_a hn.symm)).trans (zv_zc_a hro.2.2.2.2.2.1.symm)).trans (zv_zc_a hro.2.2.2.2.1.symm)) ?_
  have b4 := zv_R h o 5
  refine z_putI dX9_copy_59 fX9_34 (isS_kd hr).1 rfl ?_
  refine z_vret dX9_copy_62 rfl ?_
  refine K _ ⟨⟨fun b j hb => ?_, fun b j hb => rfl, rfl⟩, fun j hj => ⟨?_, ?_⟩, fun j h2 h5 => ?_⟩
  · simp only [List.mem_cons, List.not_mem_nil, or_false, not_or] at hb
    rw [zv_zp_a hb.1, zv_zp_a hb.1, zv_zp_a hb.1, zv_zp_a hb.1, zv_zc_a hb.2.2, zv_zc_a hb.2.1]
  · rw [zv_zp_a (by omega), zv_zp_a (by omega), zv_zp_a (by omega), zv_zp_a (by omega), zv_zc_a (by omega), zv_zc, if_pos rfl, if_pos hj]
  · rw [zv_zp_a (by omega), zv_zp_a (by omega), zv_zp_a (by omega), zv_zp_a (by omega), zv_zc, if_pos rfl, if_pos hj, zv_zc_a (by omega)]
  · rw [zv_zp (by omega), zv_zp (by omega), zv_zp (by omega), zv_zp (by omega)]
    rcases (show j = 2 ∨ j = 3 ∨ j = 4 ∨ j = 5 by omega) with rfl | rfl | rfl | rfl <;> simp
theorem ring_P (t k : Nat) : ab_P t 166 k = 45 + 3 * k := by unfold ab_P; simp
theorem isS_ring {k : Nat} (hk : k < 40) : isS (45 + 3 * k) := ⟨k + 3, by omega, by omega⟩
theorem c_keep0 {d : Nat} {h : ab_H} {Q : ab_Q} {x : Nat} (hx : zv h 165 1 = x) (hx2 : x < 40) (hs : 0 ≤ zv h 165 2) (hs2 : zv h 165 2 ≤ 40) (K : ∀ h1, cpR h h1 (45 + 3 * x) 36 → Q none (zp (zp h1 165 1 (((x + 1) % 40 : Nat) : Int)) 165 2 (min (zv h 165 2 + 1) 40))) : ab_X (d + 2) mX0_keep 0 (lv_args 0 [.ref 165, .ref 36]) [] h Q := by
  show ab_X (d + 2) mX0_keep 0 [(0, .ref 165), (1, .ref 36)] [] h Q
  refine ab_aload_n (k := 0) dX0_keep_0 rfl rfl ?_
  refine z_getP (b := 166) dX0_keep_1 fX0_11 rfl rfl rfl ?_
  refine ab_aload_n (k := 0) dX0_keep_4 rfl rfl ?_
  refine z_getI dX0_keep_5 fX0_22 rfl (Or.inl rfl) ?_
  refine z_is (y := (x : Int)) hx ?_
  refine z_aald (b := (45 + 3 * x)) dX0_keep_8 (Or.inr (Or.inl rfl)) (by omega) (by omega) (by rw [Int.toNat_natCast]; exact ring_P _ x) ?_
  refine ab_aload_n (k := 1) dX0_keep_9 rfl rfl ?_
  refine ab_callV (As := [.ref 36]) (rest := []) dX0_keep_10 lX0_25 (isS_kd (isS_ring hx2)).1 (Nat.le_of_ble_eq_true rfl) (Nat.le_of_ble_eq_true rfl) rfl ?_
  refine c_scopy (isS_ring hx2) ⟨0, by decide, rfl⟩ (by omega) (fun h1 hc1 => ?_)
  show ab_X (d + 2) mX0_keep 13 [(0, .ref 165), (1, .ref 36)] [] h1 _
  refine ab_aload_n (k := 0) dX0_keep_13 rfl rfl ?_
  refine ab_aload_n (k := 0) dX0_keep_14 rfl rfl ?_
  refine z_getI dX0_keep_15 fX0_22 rfl (Or.inl rfl) ?_
  refine z_is (y := (x : Int)) ((hc1.1.1 165 1 (by simp; omega)).trans hx) ?_
  refine z_iconst dX0_keep_18 ?_
  refine z_iadd dX0_keep_19 ?_
  refine z_bipush dX0_keep_20 (by decide) ?_
  refine z_irem dX0_keep_22 (by omega) (by omega) (by omega) ?_
  refine z_is (y := (((x + 1) % 40 : Nat) : Int)) (by rw [Int.tmod_eq_emod_of_nonneg (by omega)]; omega) ?_
  refine z_putI dX0_keep_23 fX0_22 rfl rfl ?_
  refine ab_aload_n (k := 0) dX0_keep_26 rfl rfl ?_
  refine ab_aload_n (k := 0) dX0_keep_27 rfl rfl ?_
  refine z_getI dX0_keep_28 fX0_18 rfl (Or.inl rfl) ?_
  refine z_is (y := zv h1 165 2) (zv_zp_ne (by decide)) ?_
  refine z_is (y := zv h 165 2) (hc1.1.1 165 2 (by simp; omega)) ?_
  refine z_iconst dX0_keep_31 ?_
  refine z_iadd dX0_keep_32 ?_
  refine z_bipush dX0_keep_33 (by decide) ?_
  refine z_mmin dX0_keep_35 lX0_29 (Nat.le_of_ble_eq_true rfl) (by omega) (by decide) ?_
  refine z_putI dX0_keep_38 fX0_18 rfl rfl ?_
  refine z_vret dX0_keep_41 rfl ?_
  exact K h1 hc1
theorem c_forget {d : Nat} {h : ab_H} {Q : ab_Q}  (K : Q none (zp h 165 2 0)) : ab_X d mX0_forget 0 (lv_args 0 [.ref 165]) [] h Q := by
  show ab_X d mX0_forget 0 [(0, .ref 165)] [] h Q
  refine ab_aload_n (k := 0) dX0_forget_0 rfl rfl ?_
  refine z_iconst dX0_forget_1 ?_
  refine z_putI dX0_forget_2 fX0_18 rfl rfl ?_
  refine z_vret dX0_forget_5 rfl ?_
  exact K
theorem c_restore0 {d : Nat} {h : ab_H} {Q : ab_Q} {x : Nat} (hx : zv h 165 1 = x) (hx2 : x < 40) (hs : 0 < zv h 165 2) (K : ∀ h1, cpR (zp h 165 1 (((x + 39) % 40 : Nat) : Int)) h1 36 (45 + 3 * ((x + 39) % 40)) → Q none (zp h1 165 2 (zv h 165 2 - 1))) : ab_X (d + 2) mX0_restore 0 (lv_args 0 [.ref 165, .ref 36]) [] h Q := by
  show ab_X (d + 2) mX0_restore 0 [(0, .ref 165), (1, .ref 36)] [] h Q
  refine ab_aload_n (k := 0) dX0_restore_0 rfl rfl ?_
  refine z_getI dX0_restore_1 fX0_18 rfl (Or.inl rfl) ?_
  have b1 := zv_R h 165 2
  refine z_if_le (tgt := 46) dX0_restore_4 (by decide) (by omega) (fun c4 => ?_) (fun c4 => ?_)
  · skip
    refine z_vret dX0_restore_46 rfl ?_
    exact absurd c4 (by omega)
  · skip
    refine ab_aload_n (k := 0) dX0_restore_7 rfl rfl ?_
    refine ab_aload_n (k := 0) dX0_restore_8 rfl rfl ?_
    refine z_getI dX0_restore_9 fX0_22 rfl (Or.inl rfl) ?_
    refine z_is (y := (x : Int)) hx ?_
    refine z_bipush dX0_restore_12 (by decide) ?_
    refine z_iadd dX0_restore_14 ?_
    refine z_iconst dX0_restore_15 ?_
    refine z_isub dX0_restore_16 ?_
    refine z_bipush dX0_restore_17 (by decide) ?_
    refine z_irem dX0_restore_19 (by omega) (by omega) (by omega) ?_
    refine z_is (y := (((x + 39) % 40 : Nat) : Int)) (by rw [Int.tmod_eq_emod_of_nonneg (by omega)]; omega) ?_
    refine z_putI dX0_restore_20 fX0_22 rfl rfl ?_
    refine ab_aload_n (k := 1) dX0_restore_23 rfl rfl ?_
    refine ab_aload_n (k := 0) dX0_restore_24 rfl rfl ?_
    refine z_getP (b := 166) dX0_restore_25 fX0_11 rfl rfl rfl ?_
    refine ab_aload_n (k := 0) dX0_restore_28 rfl rfl ?_
    refine z_getI dX0_restore_29 fX0_22 rfl (Or.inl rfl) ?_
    refine z_is (y := (((x + 39) % 40 : Nat) : Int)) (zv_zp_s (by omega)) ?_
    refine z_aald (b := (45 + 3 * ((x + 39) % 40))) dX0_restore_32 (Or.inr (Or.inl rfl)) (by omega) (by omega) (by rw [Int.toNat_natCast]; exact ring_P _ _) ?_
    refine ab_callV (As := [.ref (45 + 3 * ((x + 39) % 40))]) (rest := []) dX0_restore_33 lX0_25 rfl (Nat.le_of_ble_eq_true rfl) (Nat.le_of_ble_eq_true rfl) rfl ?_
    refine c_scopy ⟨0, by decide, rfl⟩ (isS_ring (Nat.mod_lt _ (by decide))) (by omega) (fun h1 hc1 => ?_)
    show ab_X (d + 2) mX0_restore 36 [(0, .ref 165), (1, .ref 36)] [] h1 _
    refine ab_aload_n (k := 0) dX0_restore_36 rfl rfl ?_
    refine ab_dup dX0_restore_37 rfl ?_
    refine z_getI dX0_restore_38 fX0_18 rfl (Or.inl rfl) ?_
    refine z_is (y := zv h 165 2) ((hc1.1.1 165 2 (by decide)).trans (zv_zp_ne (by decide))) ?_
    refine z_iconst dX0_restore_41 ?_
    refine z_isub dX0_restore_42 ?_
    refine z_putI dX0_restore_43 fX0_18 rfl rfl ?_
    refine z_vret dX0_restore_46 rfl ?_
    exact K h1 hc1
