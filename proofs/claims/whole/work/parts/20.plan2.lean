/-! CONTRACTS OF THE CLASS: the plan's changes, standing, bays, gaps told -/
theorem frm_iff {h : ab_H} {r y : Nat} {z : Int} : frm h r z y = true ↔ zv h 18 y = 0 ∧ zv h (r + 1) y = -1 ∧ ¬ (y : Int) = z := by unfold frm; exact decide_eq_true_iff
theorem lp_canStand {d : Nat} {Q : ab_Q} {h0 : ab_H} {n p l : Nat} (hn : zv h0 15 0 = n) (hn2 : n ≤ 20) (hp : p + l ≤ n) (k1 : allf (frm h0 36 (-1)) l p = true → Q (some (.int (iI 1))) h0) (k0 : ¬ allf (frm h0 36 (-1)) l p = true → Q (some (.int (iI 0))) h0) : ∀ (nn : Nat) (y : Nat) (h : ab_H), p + l - y = nn → (h = h0) → (p ≤ y) → (y ≤ p + l) → (∀ j, p ≤ j → j < y → frm h0 36 (-1) j = true) → ab_X (d + 2) mX11_canStand 21 [(0, .ref 0), (1, .int (iI (p : Int))), (2, .int (iI (l : Int))), (3, .int (iI (y : Int)))] [] h Q := by
  intro nn
  induction nn using Nat.strongRecOn with
  | ind nn ih =>
  intro y h hnn hh h1 h2 hI
  subst hh
  refine ab_iload_n (k := 3) dX11_canStand_21 rfl rfl ?_
  refine ab_iload_n (k := 1) dX11_canStand_22 rfl rfl ?_
  refine ab_iload_n (k := 2) dX11_canStand_23 rfl rfl ?_
  refine z_iadd dX11_canStand_24 ?_
  refine z_icmp_ge (tgt := 59) dX11_canStand_25 (by decide) (by omega) (by omega) (fun c25 => ?_) (fun c25 => ?_)
  · skip
    refine z_iconst dX11_canStand_59 ?_
    refine z_zret dX11_canStand_60 rfl (Or.inr rfl) ?_
    exact k1 (allf_iff.mpr (fun j a b => hI j a (by omega)))
  · skip
    refine ab_aload_n (k := 0) dX11_canStand_28 rfl rfl ?_
    refine z_getP (b := 15) dX11_canStand_29 fX11_35 rfl rfl rfl ?_
    refine ab_iload_n (k := 3) dX11_canStand_32 rfl rfl ?_
    refine ab_callV (As := [.int (iI (y : Int))]) (rest := []) dX11_canStand_33 lX11_168 rfl (Nat.le_of_ble_eq_true rfl) (Nat.le_of_ble_eq_true rfl) rfl ?_
    refine c_isGate (by omega) (by omega) (fun g33 => ?_) (fun g33 => ?_)
    · skip
      try simp only [Int.toNat_natCast] at g33
      show ab_X (d + 2) mX11_canStand 36 [(0, .ref 0), (1, .int (iI (p : Int))), (2, .int (iI (l : Int))), (3, .int (iI (y : Int)))] [.int (iI 1)] h _
      refine z_if_ne (tgt := 51) dX11_canStand_36 (by decide) (by decide) (fun _ => ?_) (fun c36 => absurd c36 (by decide))
      refine z_iconst dX11_canStand_51 ?_
      refine z_zret dX11_canStand_52 rfl (Or.inl rfl) ?_
      exact k0 (fun q => absurd (frm_iff.mp (allf_iff.mp q y (by omega) (by omega))).1 g33.2.2)
    · skip
      try simp only [Int.toNat_natCast] at g33
      show ab_X (d + 2) mX11_canStand 36 [(0, .ref 0), (1, .int (iI (p : Int))), (2, .int (iI (l : Int))), (3, .int (iI (y : Int)))] [.int (iI 0)] h _
      refine z_if_ne (tgt := 51) dX11_canStand_36 (by decide) (by decide) (fun c36 => absurd c36 (by decide)) (fun _ => ?_)
      refine ab_aload_n (k := 0) dX11_canStand_39 rfl rfl ?_
      refine z_getP (b := 36) dX11_canStand_40 fX11_53 rfl rfl rfl ?_
      refine ab_iload_n (k := 3) dX11_canStand_43 rfl rfl ?_
      refine ab_callV (As := [.int (iI (y : Int))]) (rest := []) dX11_canStand_44 lX11_162 rfl (Nat.le_of_ble_eq_true rfl) (Nat.le_of_ble_eq_true rfl) rfl ?_
      refine c_placeAt rfl rfl rfl (by omega) (fun _ => ?_) (fun q => absurd (show _ from ⟨by omega, by omega⟩) q)
      have bp44 := zv_R h 37 y
      show ab_X (d + 2) mX11_canStand 47 [(0, .ref 0), (1, .int (iI (p : Int))), (2, .int (iI (l : Int))), (3, .int (iI (y : Int)))] [.int (iI (zv h 37 y))] h _
      refine z_iconst dX11_canStand_47 ?_
      refine z_icmp_eq (tgt := 53) dX11_canStand_48 (by decide) (by omega) (by decide) (fun c48 => ?_) (fun c48 => ?_)
      · skip
        refine z_iinc (k := 3) (v := (y : Int) + 1) (ls' := [(3, .int (iI ((y : Int) + 1))), (0, .ref 0), (1, .int (iI (p : Int))), (2, .int (iI (l : Int)))]) dX11_canStand_53 rfl rfl (by decide) rfl ?_
        refine ab_goto (tgt := 21) dX11_canStand_56 (by decide) ?_
        refine ab_sub (ls' := [(0, .ref 0), (1, .int (iI (p : Int))), (2, .int (iI (l : Int))), (3, .int (iI ((y : Int) + 1)))]) (ks := [1, 2, 3, 0]) rfl ?_
        exact ih _ (by omega) (y + 1) h rfl rfl (by omega) (by omega) (fun j a b => by
          by_cases e : j = y
          · subst e
            refine frm_iff.mpr ⟨?_, c48, by omega⟩
            by_cases q : zv h 18 j = 0
            · exact q
            · exact absurd ⟨by omega, by omega, q⟩ g33
          · exact hI j a (by omega))
      · skip
        refine z_iconst dX11_canStand_51 ?_
        refine z_zret dX11_canStand_52 rfl (Or.inl rfl) ?_
        exact k0 (fun q => absurd (frm_iff.mp (allf_iff.mp q y (by omega) (by omega))).2.1 c48)
theorem c_canStand {d : Nat} {h : ab_H} {Q : ab_Q} {n l : Nat} {s : Int} (hn : zv h 15 0 = n) (hn2 : n ≤ 20) (hl : l ≤ 9) (hs : inR s) (k1 : 0 ≤ s → s.toNat + l ≤ n → allf (frm h 36 (-1)) l s.toNat = true → Q (some (.int (iI 1))) h) (k0 : ¬ (0 ≤ s ∧ s.toNat + l ≤ n ∧ allf (frm h 36 (-1)) l s.toNat = true) → Q (some (.int (iI 0))) h) : ab_X (d + 2) mX11_canStand 0 (lv_args 0 [.ref 0, .int (iI s), .int (iI (l : Int))]) [] h Q := by
  show ab_X (d + 2) mX11_canStand 0 [(0, .ref 0), (1, .int (iI s)), (2, .int (iI (l : Int)))] [] h Q
  refine ab_iload_n (k := 1) dX11_canStand_0 rfl rfl ?_
  refine z_if_lt (tgt := 17) dX11_canStand_1 (by decide) (by omega) (fun c1 => ?_) (fun c1 => ?_)
  · skip
    refine z_iconst dX11_canStand_17 ?_
    refine z_zret dX11_canStand_18 rfl (Or.inl rfl) ?_
    exact k0 (by omega)
  · skip
    refine ab_iload_n (k := 1) dX11_canStand_4 rfl rfl ?_
    refine ab_aload_n (k := 0) dX11_canStand_5 rfl rfl ?_
    refine z_getP (b := 15) dX11_canStand_6 fX11_35 rfl rfl rfl ?_
    refine z_getI dX11_canStand_9 fX11_286 rfl (Or.inl rfl) ?_
    have b1 := zv_R h 15 0
    refine ab_iload_n (k := 2) dX11_canStand_12 rfl rfl ?_
    refine z_isub dX11_canStand_13 ?_
    refine z_icmp_le (tgt := 19) dX11_canStand_14 (by decide) (by omega) (by omega) (fun c14 => ?_) (fun c14 => ?_)
    · skip
      refine ab_iload_n (k := 1) dX11_canStand_19 rfl rfl ?_
      refine ab_istore_n (ls' := [(3, .int (iI s)), (0, .ref 0), (1, .int (iI s)), (2, .int (iI (l : Int)))]) dX11_canStand_20 rfl (by decide) rfl ?_
      refine ab_sub (ls' := [(0, .ref 0), (1, .int (iI s)), (2, .int (iI (l : Int))), (3, .int (iI s))]) (ks := [1, 2, 3, 0]) rfl ?_
      have es : s = (s.toNat : Int) := by omega
      generalize s.toNat = p at *
      subst es
      exact lp_canStand hn hn2 (by omega) (fun q => k1 (by omega) (by omega) q) (fun q => k0 (fun z => q z.2.2)) _ p h rfl rfl (Nat.le_refl p) (by omega) (fun j a b => by omega)
    · skip
      refine z_iconst dX11_canStand_17 ?_
      refine z_zret dX11_canStand_18 rfl (Or.inl rfl) ?_
      exact k0 (by omega)
def bgI (h0 h : ab_H) (y : Nat) : Prop := sm [7] h0 h ∧ ∀ j, zv h 7 j = if j < y then 0 else zv h0 7 j
theorem lp_begin {d : Nat} {Q : ab_Q} {h0 : ab_H} (K : ∀ h', bgI h0 h' 20 → Q none h') : ∀ (nn : Nat) (y : Nat) (h : ab_H), 20 - y = nn → (y ≤ 20) → (bgI h0 h y) → ab_X d mX6_begin 7 [(0, .ref 4), (1, .int (iI (y : Int)))] [] h Q := by
  intro nn
  induction nn using Nat.strongRecOn with
  | ind nn ih =>
  intro y h hnn h2 hI
  refine ab_iload_n (k := 1) dX6_begin_7 rfl rfl ?_
  refine z_bipush dX6_begin_8 (by decide) ?_
  refine z_icmp_ge (tgt := 26) dX6_begin_10 (by decide) (by omega) (by decide) (fun c10 => ?_) (fun c10 => ?_)
  · skip
    refine z_vret dX6_begin_26 rfl ?_
    have e : y = 20 := by omega
    subst e
    exact K h hI
  · skip
    refine ab_aload_n (k := 0) dX6_begin_13 rfl rfl ?_
    refine z_getP (b := 7) dX6_begin_14 fX6_18 rfl rfl rfl ?_
    refine ab_iload_n (k := 1) dX6_begin_17 rfl rfl ?_
    refine z_iconst dX6_begin_18 ?_
    refine z_zast dX6_begin_19 rfl (by omega) (by omega) (Or.inl rfl) ?_
    simp only [Int.toNat_natCast]
    refine z_iinc (k := 1) (v := (y : Int) + 1) (ls' := [(1, .int (iI ((y : Int) + 1))), (0, .ref 4)]) dX6_begin_20 rfl rfl (by decide) rfl ?_
    refine ab_goto (tgt := 7) dX6_begin_23 (by decide) ?_
    refine ab_sub (ls' := [(0, .ref 4), (1, .int (iI ((y : Int) + 1)))]) (ks := [1, 0]) rfl ?_
    exact ih _ (by omega) (y + 1) _ rfl (by omega) ⟨hI.1.trans (sm_zp (by decide)), fun j => by rw [zv_zp (by decide), hI.2 j]; by_cases e : j = y <;> (repeat' split) <;> omega⟩
theorem c_begin {d : Nat} {h : ab_H} {Q : ab_Q}  (K : ∀ h', bgI (zp h 4 3 0) h' 20 → Q none h') : ab_X d mX6_begin 0 (lv_args 0 [.ref 4]) [] h Q := by
  show ab_X d mX6_begin 0 [(0, .ref 4)] [] h Q
  refine ab_aload_n (k := 0) dX6_begin_0 rfl rfl ?_
  refine z_iconst dX6_begin_1 ?_
  refine z_putI dX6_begin_2 fX6_22 rfl rfl ?_
  refine z_iconst dX6_begin_5 ?_
  refine ab_istore_n (ls' := [(1, .int (iI 0)), (0, .ref 4)]) dX6_begin_6 rfl (by decide) rfl ?_
  refine ab_sub (ls' := [(0, .ref 4), (1, .int (iI 0))]) (ks := [1, 0]) rfl ?_
  exact lp_begin K _ 0 _ rfl (by omega) ⟨sm.refl, fun j => by rw [if_neg (by omega)]⟩
theorem c_addSort {d : Nat} {h : ab_H} {Q : ab_Q} {l x : Int} {k : Nat} (hk : zv h 4 3 = k) (hk2 : k < 4) (K : Q none (zp (zp (zp h 5 k l) 6 k x) 4 3 ((k : Int) + 1))) : ab_X d mX6_addSort 0 (lv_args 0 [.ref 4, .int (iI l), .int (iI x)]) [] h Q := by
  show ab_X d mX6_addSort 0 [(0, .ref 4), (1, .int (iI l)), (2, .int (iI x))] [] h Q
  refine ab_aload_n (k := 0) dX6_addSort_0 rfl rfl ?_
  refine z_getI dX6_addSort_1 fX6_22 rfl (Or.inl rfl) ?_
  refine z_is (y := (k : Int)) hk ?_
  refine z_iconst dX6_addSort_4 ?_
  refine z_icmp_ge (tgt := 38) dX6_addSort_5 (by decide) (by omega) (by decide) (fun c5 => ?_) (fun c5 => ?_)
  · skip
    refine z_vret dX6_addSort_38 rfl ?_
    exact absurd c5 (by omega)
  · skip
    refine ab_aload_n (k := 0) dX6_addSort_8 rfl rfl ?_
    refine z_getP (b := 5) dX6_addSort_9 fX6_9 rfl rfl rfl ?_
    refine ab_aload_n (k := 0) dX6_addSort_12 rfl rfl ?_
    refine z_getI dX6_addSort_13 fX6_22 rfl (Or.inl rfl) ?_
    refine z_is (y := (k : Int)) hk ?_
    refine ab_iload_n (k := 1) dX6_addSort_16 rfl rfl ?_
    refine z_iast dX6_addSort_17 rfl (by omega) (by omega) ?_
    simp only [Int.toNat_natCast]
    refine ab_aload_n (k := 0) dX6_addSort_18 rfl rfl ?_
    refine z_getP (b := 6) dX6_addSort_19 fX6_15 rfl rfl rfl ?_
    refine ab_aload_n (k := 0) dX6_addSort_22 rfl rfl ?_
    refine z_getI dX6_addSort_23 fX6_22 rfl (Or.inl rfl) ?_
    refine z_is (y := zv h 4 3) (zv_zp_a (by decide)) ?_
    refine z_is (y := (k : Int)) hk ?_
    refine ab_iload_n (k := 2) dX6_addSort_26 rfl rfl ?_
    refine z_iast dX6_addSort_27 rfl (by omega) (by omega) ?_
    simp only [Int.toNat_natCast]
    refine ab_aload_n (k := 0) dX6_addSort_28 rfl rfl ?_
    refine ab_dup dX6_addSort_29 rfl ?_
    refine z_getI dX6_addSort_30 fX6_22 rfl (Or.inl rfl) ?_
    refine z_is (y := zv h 4 3) ((zv_zp_a (by decide)).trans (zv_zp_a (by decide))) ?_
    refine z_is (y := (k : Int)) hk ?_
    refine z_iconst dX6_addSort_33 ?_
    refine z_iadd dX6_addSort_34 ?_
    refine z_putI dX6_addSort_35 fX6_22 rfl rfl ?_
    refine z_vret dX6_addSort_38 rfl ?_
    exact K
def agI (h0 h : ab_H) (a y : Nat) : Prop := sm [7] h0 h ∧ ∀ j, zv h 7 j = if a ≤ j ∧ j < y then 1 else zv h0 7 j
theorem lp_addGate {d : Nat} {Q : ab_Q} {h0 : ab_H} {a l : Nat} (ha : a ≤ 19) (hl : l ≤ 9) (K : ∀ h', agI h0 h' a (min (a + l) 20) → Q none h') : ∀ (nn : Nat) (y : Nat) (h : ab_H), 20 - y = nn → (a ≤ y) → (y ≤ min (a + l) 20) → (agI h0 h a y) → ab_X d mX6_addGate 2 [(0, .ref 4), (1, .int (iI (a : Int))), (2, .int (iI (l : Int))), (3, .int (iI (y : Int)))] [] h Q := by
  intro nn
  induction nn using Nat.strongRecOn with
  | ind nn ih =>
  intro y h hnn h1 h2 hI
  refine ab_iload_n (k := 3) dX6_addGate_2 rfl rfl ?_
  refine ab_iload_n (k := 1) dX6_addGate_3 rfl rfl ?_
  refine ab_iload_n (k := 2) dX6_addGate_4 rfl rfl ?_
  refine z_iadd dX6_addGate_5 ?_
  refine z_icmp_ge (tgt := 28) dX6_addGate_6 (by decide) (by omega) (by omega) (fun c6 => ?_) (fun c6 => ?_)
  · skip
    refine z_vret dX6_addGate_28 rfl ?_
    have e : y = min (a + l) 20 := by omega
    subst e
    exact K h hI
  · skip
    refine ab_iload_n (k := 3) dX6_addGate_9 rfl rfl ?_
    refine z_bipush dX6_addGate_10 (by decide) ?_
    refine z_icmp_ge (tgt := 28) dX6_addGate_12 (by decide) (by omega) (by decide) (fun c12 => ?_) (fun c12 => ?_)
    · skip
      refine z_vret dX6_addGate_28 rfl ?_
      have e : y = min (a + l) 20 := by omega
      subst e
      exact K h hI
    · skip
      refine ab_aload_n (k := 0) dX6_addGate_15 rfl rfl ?_
      refine z_getP (b := 7) dX6_addGate_16 fX6_18 rfl rfl rfl ?_
      refine ab_iload_n (k := 3) dX6_addGate_19 rfl rfl ?_
      refine z_iconst dX6_addGate_20 ?_
      refine z_zast dX6_addGate_21 rfl (by omega) (by omega) (Or.inr rfl) ?_
      simp only [Int.toNat_natCast]
      refine z_iinc (k := 3) (v := (y : Int) + 1) (ls' := [(3, .int (iI ((y : Int) + 1))), (0, .ref 4), (1, .int (iI (a : Int))), (2, .int (iI (l : Int)))]) dX6_addGate_22 rfl rfl (by decide) rfl ?_
      refine ab_goto (tgt := 2) dX6_addGate_25 (by decide) ?_
      refine ab_sub (ls' := [(0, .ref 4), (1, .int (iI (a : Int))), (2, .int (iI (l : Int))), (3, .int (iI ((y : Int) + 1)))]) (ks := [1, 2, 3, 0]) rfl ?_
      exact ih _ (by omega) (y + 1) _ rfl (by omega) (by omega) ⟨hI.1.trans (sm_zp (by decide)), fun j => by rw [zv_zp (by decide), hI.2 j]; by_cases e : j = y <;> (repeat' split) <;> omega⟩
theorem c_addGate {d : Nat} {h : ab_H} {Q : ab_Q} {a l : Nat} (ha : a ≤ 19) (hl : l ≤ 9) (K : ∀ h', agI h h' a (min (a + l) 20) → Q none h') : ab_X d mX6_addGate 0 (lv_args 0 [.ref 4, .int (iI (a : Int)), .int (iI (l : Int))]) [] h Q := by
  show ab_X d mX6_addGate 0 [(0, .ref 4), (1, .int (iI (a : Int))), (2, .int (iI (l : Int)))] [] h Q
  refine ab_iload_n (k := 1) dX6_addGate_0 rfl rfl ?_
  refine ab_istore_n (ls' := [(3, .int (iI (a : Int))), (0, .ref 4), (1, .int (iI (a : Int))), (2, .int (iI (l : Int)))]) dX6_addGate_1 rfl (by decide) rfl ?_
  refine ab_sub (ls' := [(0, .ref 4), (1, .int (iI (a : Int))), (2, .int (iI (l : Int))), (3, .int (iI (a : Int)))]) (ks := [1, 2, 3, 0]) rfl ?_
  exact lp_addGate ha hl K _ a h rfl (Nat.le_refl a) (by omega) ⟨sm.refl, fun j => by rw [if_neg (by omega)]⟩
def pcI (h0 h : ab_H) (y : Nat) : Prop := sm [18] h0 h ∧ ∀ j, zv h 18 j = if j < y then zv h0 7 j else zv h0 18 j
theorem pcI_step {h0 h : ab_H} {y : Nat} (hI : pcI h0 h y) : pcI h0 (zp h 18 y (zv h0 7 y)) (y + 1) := by
  refine ⟨hI.1.trans (sm_zp (by decide)), fun j => ?_⟩
  rw [zv_zp (zv_R h0 7 y), hI.2 j]
  by_cases e : j = y
  · subst e; rw [if_pos ⟨rfl, rfl⟩, if_pos (by omega)]
  · rw [if_neg (fun q => e q.2)]; (repeat' split) <;> omega
def pcR (h h' : ab_H) : Prop := sm [15, 16, 17, 18] h h' ∧ (∀ j, j ≤ 3 → zv h' 15 j = zv h 4 j) ∧ (∀ j, j < 4 → zv h' 16 j = zv h 5 j ∧ zv h' 17 j = zv h 6 j) ∧ ∀ j, j < 20 → zv h' 18 j = zv h 7 j
theorem lp_pcopy {d : Nat} {Q : ab_Q} {h0 : ab_H} (hb : ∀ j, j < 20 → zv h0 7 j = 0 ∨ zv h0 7 j = 1) (K : ∀ h', pcI h0 h' 20 → Q none h') : ∀ (nn : Nat) (y : Nat) (h : ab_H), 20 - y = nn → (y ≤ 20) → (pcI h0 h y) → ab_X (d + 1) mX6_copy 62 [(0, .ref 15), (1, .ref 4), (2, .int (iI (y : Int)))] [] h Q := by
  intro nn
  induction nn using Nat.strongRecOn with
  | ind nn ih =>
  intro y h hnn h2 hI
  refine ab_iload_n (k := 2) dX6_copy_62 rfl rfl ?_
  refine z_bipush dX6_copy_63 (by decide) ?_
  refine z_icmp_ge (tgt := 86) dX6_copy_65 (by decide) (by omega) (by decide) (fun c65 => ?_) (fun c65 => ?_)
  · skip
    refine z_vret dX6_copy_86 rfl ?_
    have e : y = 20 := by omega
    subst e
    exact K h hI
  · skip
    have hby := hb y (by omega)
    refine ab_aload_n (k := 0) dX6_copy_68 rfl rfl ?_
    refine z_getP (b := 18) dX6_copy_69 fX6_18 rfl rfl rfl ?_
    refine ab_iload_n (k := 2) dX6_copy_72 rfl rfl ?_
    refine ab_aload_n (k := 1) dX6_copy_73 rfl rfl ?_
    refine z_getP (b := 7) dX6_copy_74 fX6_18 rfl rfl rfl ?_
    refine ab_iload_n (k := 2) dX6_copy_77 rfl rfl ?_
    refine z_bald dX6_copy_78 (Or.inr rfl) (by omega) (by omega) ?_
    simp only [Int.toNat_natCast]
    refine z_is (y := zv h0 7 y) (hI.1.1 7 y (by decide)) ?_
    refine z_zast dX6_copy_79 rfl (by omega) (by omega) (by omega) ?_
    simp only [Int.toNat_natCast]
    refine z_iinc (k := 2) (v := (y : Int) + 1) (ls' := [(2, .int (iI ((y : Int) + 1))), (0, .ref 15), (1, .ref 4)]) dX6_copy_80 rfl rfl (by decide) rfl ?_
    refine ab_goto (tgt := 62) dX6_copy_83 (by decide) ?_
    refine ab_sub (ls' := [(0, .ref 15), (1, .ref 4), (2, .int (iI ((y : Int) + 1)))]) (ks := [1, 2, 0]) rfl ?_
    exact ih _ (by omega) (y + 1) _ rfl (by omega) (pcI_step hI)
theorem c_pcopy {d : Nat} {h : ab_H} {Q : ab_Q}  (hb : ∀ j, j < 20 → zv h 7 j = 0 ∨ zv h 7 j = 1) (K : ∀ h', pcR h h' → Q none h') : ab_X (d + 1) mX6_copy 0 (lv_args 0 [.ref 15, .ref 4]) [] h Q := by
  show ab_X (d + 1) mX6_copy 0 [(0, .ref 15), (1, .ref 4)] [] h Q
  refine ab_aload_n (k := 0) dX6_copy_0 rfl rfl ?_
  refine ab_aload_n (k := 1) dX6_copy_1 rfl rfl ?_
  refine z_getI dX6_copy_2 fX6_26 rfl (Or.inl rfl) ?_
  have b1 := zv_R h 4 0
  refine z_putI dX6_copy_5 fX6_26 rfl rfl ?_
  refine ab_aload_n (k := 0) dX6_copy_8 rfl rfl ?_
  refine ab_aload_n (k := 1) dX6_copy_9 rfl rfl ?_
  refine z_getI dX6_copy_10 fX6_29 rfl (Or.inl rfl) ?_
  refine z_is (y := zv h 4 1) (zv_zp_a (by decide)) ?_
  have b2 := zv_R h 4 1
  refine z_putI dX6_copy_13 fX6_29 rfl rfl ?_
  refine ab_aload_n (k := 0) dX6_copy_16 rfl rfl ?_
  refine ab_aload_n (k := 1) dX6_copy_17 rfl rfl ?_
  refine z_getI dX6_copy_18 fX6_32 rfl (Or.inl rfl) ?_
  refine z_is (y := zv h 4 2) ((zv_zp_a (by decide)).trans (zv_zp_a (by decide))) ?_
  have b3 := zv_R h 4 2
  refine z_putI dX6_copy_21 fX6_32 rfl rfl ?_
  refine ab_aload_n (k := 0) dX6_copy_24 rfl rfl ?_
  refine ab_aload_n (k := 1) dX6_copy_25 rfl rfl ?_
  refine z_getI dX6_copy_26 fX6_22 rfl (Or.inl rfl) ?_
  refine z_is (y := zv h 4 3) (((zv_zp_a (by decide)).trans (zv_zp_a (by decide))).trans (zv_zp_a (by decide))) ?_
  have b4 := zv_R h 4 3
  refine z_putI dX6_copy_29 fX6_22 rfl rfl ?_
  refine ab_aload_n (k := 1) dX6_copy_32 rfl rfl ?_
  refine z_getP (b := 5) dX6_copy_33 fX6_9 rfl rfl rfl ?_
  refine z_iconst dX6_copy_36 ?_
  refine ab_aload_n (k := 0) dX6_copy_37 rfl rfl ?_
  refine z_getP (b := 16) dX6_copy_38 fX6_9 rfl rfl rfl ?_
  refine z_iconst dX6_copy_41 ?_
  refine z_iconst dX6_copy_42 ?_
  refine ab_acpi dX6_copy_43 lX6_35 (Nat.le_of_ble_eq_true rfl) rfl rfl (by decide) (by decide) (by decide) (Nat.le_of_ble_eq_true rfl) (Nat.le_of_ble_eq_true rfl) ?_
  show ab_X (d + 1) mX6_copy 46 [(0, .ref 15), (1, .ref 4)] [] (zc (zp (zp (zp (zp h 15 0 (zv h 4 0)) 15 1 (zv h 4 1)) 15 2 (zv h 4 2)) 15 3 (zv h 4 3)) 5 16 4) _
  refine ab_aload_n (k := 1) dX6_copy_46 rfl rfl ?_
  refine z_getP (b := 6) dX6_copy_47 fX6_15 rfl rfl rfl ?_
  refine z_iconst dX6_copy_50 ?_
  refine ab_aload_n (k := 0) dX6_copy_51 rfl rfl ?_
  refine z_getP (b := 17) dX6_copy_52 fX6_15 rfl rfl rfl ?_
  refine z_iconst dX6_copy_55 ?_
  refine z_iconst dX6_copy_56 ?_
  refine ab_acpi dX6_copy_57 lX6_35 (Nat.le_of_ble_eq_true rfl) rfl rfl (by decide) (by decide) (by decide) (Nat.le_of_ble_eq_true rfl) (Nat.le_of_ble_eq_true rfl) ?_
  show ab_X (d + 1) mX6_copy 60 [(0, .ref 15), (1, .ref 4)] [] (zc (zc (zp (zp (zp (zp h 15 0 (zv h 4 0)) 15 1 (zv h 4 1)) 15 2 (zv h 4 2)) 15 3 (zv h 4 3)) 5 16 4) 6 17 4) _
  refine z_iconst dX6_copy_60 ?_
  refine ab_istore_n (ls' := [(2, .int (iI 0)), (0, .ref 15), (1, .ref 4)]) dX6_copy_61 rfl (by decide) rfl ?_
  refine ab_sub (ls' := [(0, .ref 15), (1, .ref 4), (2, .int (iI 0))]) (ks := [1, 2, 0]) rfl ?_
  refine lp_pcopy (fun j hj => ?_) (fun h' hI => K h' ⟨?_, fun j hj => ?_, fun j hj => ⟨?_, ?_⟩, fun j hj => ?_⟩) _ 0 _ rfl (by omega) ⟨sm.refl, fun j => by rw [if_neg (by omega)]⟩
  · rw [zv_zc_a (by decide), zv_zc_a (by decide), zv_zp_a (by decide), zv_zp_a (by decide), zv_zp_a (by decide), zv_zp_a (by decide)]; exact hb j hj
  · refine ⟨fun b j hb' => ?_, fun b j hb' => ?_, ?_⟩
    · simp only [List.mem_cons, List.not_mem_nil, or_false, not_or] at hb'
      rw [hI.1.1 b j (by simp; omega), zv_zc_a (by omega), zv_zc_a (by omega), zv_zp_a (by omega), zv_zp_a (by omega), zv_zp_a (by omega), zv_zp_a (by omega)]
    · rw [hI.1.2.1 b j (by simp at hb' ⊢; omega)]; rfl
    · rw [hI.1.2.2]; rfl
  · rw [hI.1.1 15 j (by decide), zv_zc_a (by decide), zv_zc_a (by decide), zv_zp (by omega), zv_zp (by omega), zv_zp (by omega), zv_zp (by omega)]
    rcases (show j = 0 ∨ j = 1 ∨ j = 2 ∨ j = 3 by omega) with rfl | rfl | rfl | rfl <;> simp
  · rw [hI.1.1 16 j (by decide), zv_zc_a (by decide), zv_zc, if_pos rfl, if_pos hj, zv_zp_a (by decide), zv_zp_a (by decide), zv_zp_a (by decide), zv_zp_a (by decide)]
  · rw [hI.1.1 17 j (by decide), zv_zc, if_pos rfl, if_pos hj, zv_zc_a (by decide), zv_zp_a (by decide), zv_zp_a (by decide), zv_zp_a (by decide), zv_zp_a (by decide)]
  · rw [hI.2 j, if_pos hj, zv_zc_a (by decide), zv_zc_a (by decide), zv_zp_a (by decide), zv_zp_a (by decide), zv_zp_a (by decide), zv_zp_a (by decide)]
