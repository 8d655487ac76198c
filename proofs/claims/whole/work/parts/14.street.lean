/-! CONTRACTS OF THE CLASS: the street's changes -/
def enI (h0 h : ab_H) (p : Nat) (s : Int) (y : Nat) : Prop := sm [37, 38] h0 h ∧ ∀ j, zv h 37 j = (if p ≤ j ∧ j < y then (p : Int) else zv h0 37 j) ∧ zv h 38 j = (if p ≤ j ∧ j < y then s else zv h0 38 j)
theorem enI_step {h0 h : ab_H} {p y : Nat} {s : Int} (hp : p ≤ y) (hp2 : p < 20) (hs : inR s) (hI : enI h0 h p s y) : enI h0 (zp (zp h 37 y (p : Int)) 38 y s) p s (y + 1) := by
  refine ⟨hI.1.trans ((sm_zp (by decide)).trans (sm_zp (by decide))), fun j => ?_⟩
  have hpR : inR (p : Int) := by omega
  rw [zv_zp_a (by decide), zv_zp hpR, zv_zp hs, zv_zp_a (b := 38) (by decide), (hI.2 j).1, (hI.2 j).2]
  refine ⟨?_, ?_⟩ <;> (repeat' split) <;> omega
theorem lp_enter {d : Nat} {Q : ab_Q} {h0 : ab_H} {p l : Nat} {s : Int} (hp : p + l ≤ 20) (hp2 : p < 20) (hs : inR s) (K : ∀ h', enI h0 h' p s (p + l) → Q none (zp h' 36 2 (zv h' 36 2 + 1))) : ∀ (nn : Nat) (y : Nat) (h : ab_H), p + l - y = nn → (p ≤ y) → (y ≤ p + l) → (enI h0 h p s y) → ab_X d mX9_enter 16 [(0, .ref 36), (1, .int (iI (p : Int))), (2, .int (iI (l : Int))), (3, .int (iI s)), (4, .int (iI (y : Int)))] [] h Q := by
  intro nn
  induction nn using Nat.strongRecOn with
  | ind nn ih =>
  intro y h hnn h1 h2 hI
  refine ab_iload (k := 4) dX9_enter_16 rfl ?_
  refine ab_iload_n (k := 1) dX9_enter_18 rfl rfl ?_
  refine ab_iload_n (k := 2) dX9_enter_19 rfl rfl ?_
  refine z_iadd dX9_enter_20 ?_
  refine z_icmp_ge (tgt := 46) dX9_enter_21 (by decide) (by omega) (by omega) (fun c21 => ?_) (fun c21 => ?_)
  · skip
    refine ab_aload_n (k := 0) dX9_enter_46 rfl rfl ?_
    refine ab_dup dX9_enter_47 rfl ?_
    refine z_getI dX9_enter_48 fX9_24 rfl (Or.inl rfl) ?_
    have b1 := zv_R h 36 2
    refine z_iconst dX9_enter_51 ?_
    refine z_iadd dX9_enter_52 ?_
    refine z_putI dX9_enter_53 fX9_24 rfl rfl ?_
    refine z_vret dX9_enter_56 rfl ?_
    have e : y = p + l := by omega
    subst e
    exact K h hI
  · skip
    refine ab_aload_n (k := 0) dX9_enter_24 rfl rfl ?_
    refine z_getP (b := 37) dX9_enter_25 fX9_9 rfl rfl rfl ?_
    refine ab_iload (k := 4) dX9_enter_28 rfl ?_
    refine ab_iload_n (k := 1) dX9_enter_30 rfl rfl ?_
    refine z_iast dX9_enter_31 rfl (by omega) (by omega) ?_
    simp only [Int.toNat_natCast]
    refine ab_aload_n (k := 0) dX9_enter_32 rfl rfl ?_
    refine z_getP (b := 38) dX9_enter_33 fX9_15 rfl rfl rfl ?_
    refine ab_iload (k := 4) dX9_enter_36 rfl ?_
    refine ab_iload_n (k := 3) dX9_enter_38 rfl rfl ?_
    refine z_iast dX9_enter_39 rfl (by omega) (by omega) ?_
    simp only [Int.toNat_natCast]
    refine z_iinc (k := 4) (v := (y : Int) + 1) (ls' := [(4, .int (iI ((y : Int) + 1))), (0, .ref 36), (1, .int (iI (p : Int))), (2, .int (iI (l : Int))), (3, .int (iI s))]) dX9_enter_40 rfl rfl (by decide) rfl ?_
    refine ab_goto (tgt := 16) dX9_enter_43 (by decide) ?_
    refine ab_sub (ls' := [(0, .ref 36), (1, .int (iI (p : Int))), (2, .int (iI (l : Int))), (3, .int (iI s)), (4, .int (iI ((y : Int) + 1)))]) (ks := [1, 2, 3, 4, 0]) rfl ?_
    exact ih _ (by omega) (y + 1) _ rfl (by omega) (by omega) (enI_step h1 hp2 hs hI)
theorem c_enter {d : Nat} {h : ab_H} {Q : ab_Q} {p l : Nat} {s : Int} (hp : p + l ≤ 20) (hp2 : p < 20) (hs : inR s) (K : ∀ h', enI h h' p s (p + l) → Q none (zp h' 36 2 (zv h' 36 2 + 1))) : ab_X d mX9_enter 0 (lv_args 0 [.ref 36, .int (iI (p : Int)), .int (iI (l : Int)), .int (iI s)]) [] h Q := by
  show ab_X d mX9_enter 0 [(0, .ref 36), (1, .int (iI (p : Int))), (2, .int (iI (l : Int))), (3, .int (iI s))] [] h Q
  refine ab_iload_n (k := 1) dX9_enter_0 rfl rfl ?_
  refine z_if_lt (tgt := 12) dX9_enter_1 (by decide) (by omega) (fun c1 => ?_) (fun c1 => ?_)
  · skip
    refine z_vret dX9_enter_12 rfl ?_
    exact absurd c1 (by omega)
  · skip
    refine ab_iload_n (k := 1) dX9_enter_4 rfl rfl ?_
    refine z_bipush dX9_enter_5 (by decide) ?_
    refine ab_iload_n (k := 2) dX9_enter_7 rfl rfl ?_
    refine z_isub dX9_enter_8 ?_
    refine z_icmp_le (tgt := 13) dX9_enter_9 (by decide) (by omega) (by omega) (fun c9 => ?_) (fun c9 => ?_)
    · skip
      refine ab_iload_n (k := 1) dX9_enter_13 rfl rfl ?_
      refine ab_istore (ls' := [(4, .int (iI (p : Int))), (0, .ref 36), (1, .int (iI (p : Int))), (2, .int (iI (l : Int))), (3, .int (iI s))]) dX9_enter_14 (by decide) rfl ?_
      refine ab_sub (ls' := [(0, .ref 36), (1, .int (iI (p : Int))), (2, .int (iI (l : Int))), (3, .int (iI s)), (4, .int (iI (p : Int)))]) (ks := [1, 2, 3, 4, 0]) rfl ?_
      exact lp_enter hp hp2 hs K _ p h rfl (Nat.le_refl p) (by omega) ⟨sm.refl, fun j => by rw [if_neg (by omega), if_neg (by omega)]; exact ⟨rfl, rfl⟩⟩
    · skip
      refine z_vret dX9_enter_12 rfl ?_
      exact absurd c9 (by omega)

def entR (h h' : ab_H) (p l : Nat) (s : Int) : Prop := sm [36, 37, 38] h h' ∧ (∀ j, zv h' 37 j = if p ≤ j ∧ j < p + l then (p : Int) else zv h 37 j) ∧ (∀ j, zv h' 38 j = if p ≤ j ∧ j < p + l then s else zv h 38 j) ∧ zv h' 36 2 = zv h 36 2 + 1 ∧ ∀ j, j ≠ 2 → zv h' 36 j = zv h 36 j
theorem ct_enter {d : Nat} {h : ab_H} {Q : ab_Q} {p l : Nat} {s : Int} (hp : p + l ≤ 20) (hp2 : p < 20) (hs : inR s) (hc : zv h 36 2 ≤ 1000) (K : ∀ h', entR h h' p l s → Q none h') : ab_X d mX9_enter 0 (lv_args 0 [.ref 36, .int (iI (p : Int)), .int (iI (l : Int)), .int (iI s)]) [] h Q := by
  refine c_enter hp hp2 hs (fun h' hI => K _ ?_)
  have e2 : zv h' 36 2 = zv h 36 2 := hI.1.1 36 2 (by decide)
  have b2 := zv_R h 36 2
  refine ⟨(hI.1.mono (by decide)).trans (sm_zp (by decide)), fun j => ?_, fun j => ?_, ?_, fun j hj => ?_⟩
  · rw [zv_zp_a (by decide)]; exact (hI.2 j).1
  · rw [zv_zp_a (by decide)]; exact (hI.2 j).2
  · rw [zv_zp_s (by omega), e2]
  · rw [zv_zp_ne (fun q => hj q.2), hI.1.1 36 j (by decide)]
/-- a car goes -/
def exI (h0 h : ab_H) (p : Nat) (y : Nat) : Prop := sm [37, 38] h0 h ∧ ∀ j, zv h 37 j = (if p ≤ j ∧ j < y ∧ zv h0 37 j = p then -1 else zv h0 37 j) ∧ zv h 38 j = (if p ≤ j ∧ j < y ∧ zv h0 37 j = p then -1 else zv h0 38 j)
theorem exI_step {h0 h : ab_H} {p y : Nat} (hp : p ≤ y) (hI : exI h0 h p y) (hy : zv h0 37 y = p) : exI h0 (zp (zp h 37 y (-1)) 38 y (-1)) p (y + 1) := by
  refine ⟨hI.1.trans ((sm_zp (by decide)).trans (sm_zp (by decide))), fun j => ?_⟩
  have hpR : inR (-1) := by decide
  rw [zv_zp_a (by decide), zv_zp hpR, zv_zp hpR, zv_zp_a (b := 38) (by decide), (hI.2 j).1, (hI.2 j).2]
  by_cases e : j = y
  · subst e; refine ⟨?_, ?_⟩ <;> (repeat' split) <;> omega
  · refine ⟨?_, ?_⟩ <;> (repeat' split) <;> omega
theorem exI_skip {h0 h : ab_H} {p y : Nat} (hI : exI h0 h p y) (hy : ¬ zv h0 37 y = p) : exI h0 h p (y + 1) := by
  refine ⟨hI.1, fun j => ?_⟩
  rw [(hI.2 j).1, (hI.2 j).2]
  by_cases e : j = y
  · subst e; refine ⟨?_, ?_⟩ <;> (repeat' split) <;> omega
  · refine ⟨?_, ?_⟩ <;> (repeat' split) <;> omega
theorem exI_at {h0 h : ab_H} {p y : Nat} (hI : exI h0 h p y) : zv h 37 y = zv h0 37 y := by rw [(hI.2 y).1, if_neg (by omega)]
theorem lp_exit {d : Nat} {Q : ab_Q} {h0 : ab_H} {p : Nat} (hp : p < 20) (K : ∀ h', exI h0 h' p 20 → Q none (zp h' 36 2 (zv h' 36 2 - 1))) : ∀ (nn : Nat) (y : Nat) (h : ab_H), 20 - y = nn → (p ≤ y) → (y ≤ 20) → (exI h0 h p y) → ab_X (d + 1) mX9_exit 11 [(0, .ref 36), (1, .int (iI (p : Int))), (2, .int (iI (y : Int)))] [] h Q := by
  intro nn
  induction nn using Nat.strongRecOn with
  | ind nn ih =>
  intro y h hnn h1 h2 hI
  refine ab_iload_n (k := 2) dX9_exit_11 rfl rfl ?_
  refine z_bipush dX9_exit_12 (by decide) ?_
  refine z_icmp_ge (tgt := 47) dX9_exit_14 (by decide) (by omega) (by decide) (fun c14 => ?_) (fun c14 => ?_)
  · skip
    refine ab_aload_n (k := 0) dX9_exit_47 rfl rfl ?_
    refine ab_dup dX9_exit_48 rfl ?_
    refine z_getI dX9_exit_49 fX9_24 rfl (Or.inl rfl) ?_
    have b1 := zv_R h 36 2
    refine z_iconst dX9_exit_52 ?_
    refine z_isub dX9_exit_53 ?_
    refine z_putI dX9_exit_54 fX9_24 rfl rfl ?_
    refine z_vret dX9_exit_57 rfl ?_
    have e : y = 20 := by omega
    subst e
    exact K h hI
  · skip
    refine ab_aload_n (k := 0) dX9_exit_17 rfl rfl ?_
    refine z_getP (b := 37) dX9_exit_18 fX9_9 rfl rfl rfl ?_
    refine ab_iload_n (k := 2) dX9_exit_21 rfl rfl ?_
    refine z_iald dX9_exit_22 rfl (by omega) (by omega) ?_
    simp only [Int.toNat_natCast]
    have b2 := zv_R h 37 y
    refine ab_iload_n (k := 1) dX9_exit_23 rfl rfl ?_
    refine z_icmp_ne (tgt := 41) dX9_exit_24 (by decide) (by omega) (by omega) (fun c24 => ?_) (fun c24 => ?_)
    · skip
      refine z_iinc (k := 2) (v := (y : Int) + 1) (ls' := [(2, .int (iI ((y : Int) + 1))), (0, .ref 36), (1, .int (iI (p : Int)))]) dX9_exit_41 rfl rfl (by decide) rfl ?_
      refine ab_goto (tgt := 11) dX9_exit_44 (by decide) ?_
      refine ab_sub (ls' := [(0, .ref 36), (1, .int (iI (p : Int))), (2, .int (iI ((y : Int) + 1)))]) (ks := [1, 2, 0]) rfl ?_
      exact ih _ (by omega) (y + 1) _ rfl (by omega) (by omega) (exI_skip hI (by rw [← exI_at hI]; assumption))
    · skip
      refine ab_aload_n (k := 0) dX9_exit_27 rfl rfl ?_
      refine z_getP (b := 37) dX9_exit_28 fX9_9 rfl rfl rfl ?_
      refine ab_iload_n (k := 2) dX9_exit_31 rfl rfl ?_
      refine z_iconst dX9_exit_32 ?_
      refine z_iast dX9_exit_33 rfl (by omega) (by omega) ?_
      simp only [Int.toNat_natCast]
      refine ab_aload_n (k := 0) dX9_exit_34 rfl rfl ?_
      refine z_getP (b := 38) dX9_exit_35 fX9_15 rfl rfl rfl ?_
      refine ab_iload_n (k := 2) dX9_exit_38 rfl rfl ?_
      refine z_iconst dX9_exit_39 ?_
      refine z_iast dX9_exit_40 rfl (by omega) (by omega) ?_
      simp only [Int.toNat_natCast]
      refine z_iinc (k := 2) (v := (y : Int) + 1) (ls' := [(2, .int (iI ((y : Int) + 1))), (0, .ref 36), (1, .int (iI (p : Int)))]) dX9_exit_41 rfl rfl (by decide) rfl ?_
      refine ab_goto (tgt := 11) dX9_exit_44 (by decide) ?_
      refine ab_sub (ls' := [(0, .ref 36), (1, .int (iI (p : Int))), (2, .int (iI ((y : Int) + 1)))]) (ks := [1, 2, 0]) rfl ?_
      exact ih _ (by omega) (y + 1) _ rfl (by omega) (by omega) (exI_step h1 hI (by rw [← exI_at hI]; omega))
theorem c_exit {d : Nat} {h : ab_H} {Q : ab_Q} {p : Nat} (hp : p < 20) (hb : zv h 37 p = p) (K : ∀ h', exI h h' p 20 → Q none (zp h' 36 2 (zv h' 36 2 - 1))) : ab_X (d + 1) mX9_exit 0 (lv_args 0 [.ref 36, .int (iI (p : Int))]) [] h Q := by
  show ab_X (d + 1) mX9_exit 0 [(0, .ref 36), (1, .int (iI (p : Int)))] [] h Q
  refine ab_aload_n (k := 0) dX9_exit_0 rfl rfl ?_
  refine ab_iload_n (k := 1) dX9_exit_1 rfl rfl ?_
  refine ab_callV (As := [.int (iI (p : Int))]) (rest := []) dX9_exit_2 lX9_37 rfl (Nat.le_of_ble_eq_true rfl) (Nat.le_of_ble_eq_true rfl) rfl ?_
  refine c_beginsAt (by omega) (fun g2 => ?_) (fun g2 => ?_)
  · skip
    try simp only [Int.toNat_natCast] at g2
    show ab_X (d + 1) mX9_exit 5 [(0, .ref 36), (1, .int (iI (p : Int)))] [.int (iI 1)] h _
    refine z_if_ne (tgt := 9) dX9_exit_5 (by decide) (by decide) (fun _ => ?_) (fun c5 => absurd c5 (by decide))
    refine ab_iload_n (k := 1) dX9_exit_9 rfl rfl ?_
    refine ab_istore_n (ls' := [(2, .int (iI (p : Int))), (0, .ref 36), (1, .int (iI (p : Int)))]) dX9_exit_10 rfl (by decide) rfl ?_
    refine ab_sub (ls' := [(0, .ref 36), (1, .int (iI (p : Int))), (2, .int (iI (p : Int)))]) (ks := [1, 2, 0]) rfl ?_
    exact lp_exit hp K _ p h rfl (Nat.le_refl p) (by omega) ⟨sm.refl, fun j => by rw [if_neg (by omega), if_neg (by omega)]; exact ⟨rfl, rfl⟩⟩
  · skip
    try simp only [Int.toNat_natCast] at g2
    show ab_X (d + 1) mX9_exit 5 [(0, .ref 36), (1, .int (iI (p : Int)))] [.int (iI 0)] h _
    refine z_if_ne (tgt := 9) dX9_exit_5 (by decide) (by decide) (fun c5 => absurd c5 (by decide)) (fun _ => ?_)
    refine z_vret dX9_exit_8 rfl ?_
    exact absurd (show _ from ⟨by omega, by omega, hb⟩) g2
def exiR (h h' : ab_H) (p : Nat) : Prop := sm [36, 37, 38] h h' ∧ (∀ j, zv h' 37 j = if p ≤ j ∧ j < 20 ∧ zv h 37 j = p then -1 else zv h 37 j) ∧ (∀ j, zv h' 38 j = if p ≤ j ∧ j < 20 ∧ zv h 37 j = p then -1 else zv h 38 j) ∧ zv h' 36 2 = zv h 36 2 - 1 ∧ ∀ j, j ≠ 2 → zv h' 36 j = zv h 36 j
theorem ct_exit {d : Nat} {h : ab_H} {Q : ab_Q} {p : Nat} (hp : p < 20) (hb : zv h 37 p = p) (hc : 0 ≤ zv h 36 2) (K : ∀ h', exiR h h' p → Q none h') : ab_X (d + 1) mX9_exit 0 (lv_args 0 [.ref 36, .int (iI (p : Int))]) [] h Q := by
  refine c_exit hp hb (fun h' hI => K _ ?_)
  have e2 : zv h' 36 2 = zv h 36 2 := hI.1.1 36 2 (by decide)
  have b2 := zv_R h 36 2
  refine ⟨(hI.1.mono (by decide)).trans (sm_zp (by decide)), fun j => ?_, fun j => ?_, ?_, fun j hj => ?_⟩
  · rw [zv_zp_a (by decide)]; exact (hI.2 j).1
  · rw [zv_zp_a (by decide)]; exact (hI.2 j).2
  · rw [zv_zp_s (by omega), e2]
  · rw [zv_zp_ne (fun q => hj q.2), hI.1.1 36 j (by decide)]
/-- how many cars begin below y -/
def cB (f : Nat → Int) : Nat → Nat
  | 0 => 0
  | y + 1 => cB f y + (if f y = (y : Int) then 1 else 0)
theorem cB_s (f : Nat → Int) (y : Nat) : cB f (y + 1) = cB f y + (if f y = (y : Int) then 1 else 0) := rfl
theorem cB_le (f : Nat → Int) : ∀ y, cB f y ≤ y
  | 0 => Nat.le_refl 0
  | y + 1 => by have := cB_le f y; unfold cB; split <;> omega
theorem lp_carBy {d : Nat} {Q : ab_Q} {h0 : ab_H} {m : Int} (hm : inR m) (K1 : ∀ y : Nat, y < 20 → zv h0 37 y = y → (cB (zv h0 37) y : Int) = m → Q (some (.int (iI (y : Int)))) h0) (K0 : (∀ y : Nat, y < 20 → zv h0 37 y = y → ¬ (cB (zv h0 37) y : Int) = m) → Q (some (.int (iI (-1)))) h0) : ∀ (nn : Nat) (y : Nat) (c : Nat) (h : ab_H), 20 - y = nn → (h = h0) → (y ≤ 20) → (c = cB (zv h0 37) y) → (∀ z : Nat, z < y → zv h0 37 z = z → ¬ (cB (zv h0 37) z : Int) = m) → ab_X (d + 1) mX9_carBy 4 [(0, .ref 36), (1, .int (iI m)), (2, .int (iI (c : Int))), (3, .int (iI (y : Int)))] [] h Q := by
  intro nn
  induction nn using Nat.strongRecOn with
  | ind nn ih =>
  intro y c h hnn hh h2 hc hI
  subst hh
  have hcl := cB_le (zv h 37) y
  refine ab_iload_n (k := 3) dX9_carBy_4 rfl rfl ?_
  refine z_bipush dX9_carBy_5 (by decide) ?_
  refine z_icmp_ge (tgt := 34) dX9_carBy_7 (by decide) (by omega) (by decide) (fun c7 => ?_) (fun c7 => ?_)
  · skip
    refine z_iconst dX9_carBy_34 ?_
    refine z_iret dX9_carBy_35 rfl ?_
    exact K0 (fun z hz => hI z (by omega))
  · skip
    refine ab_aload_n (k := 0) dX9_carBy_10 rfl rfl ?_
    refine ab_iload_n (k := 3) dX9_carBy_11 rfl rfl ?_
    refine ab_callV (As := [.int (iI (y : Int))]) (rest := []) dX9_carBy_12 lX9_37 rfl (Nat.le_of_ble_eq_true rfl) (Nat.le_of_ble_eq_true rfl) rfl ?_
    refine c_beginsAt (by omega) (fun g12 => ?_) (fun g12 => ?_)
    · skip
      try simp only [Int.toNat_natCast] at g12
      show ab_X (d + 1) mX9_carBy 15 [(0, .ref 36), (1, .int (iI m)), (2, .int (iI (c : Int))), (3, .int (iI (y : Int)))] [.int (iI 1)] h _
      refine z_if_eq (tgt := 28) dX9_carBy_15 (by decide) (by decide) (fun c15 => absurd c15 (by decide)) (fun _ => ?_)
      refine ab_iload_n (k := 2) dX9_carBy_18 rfl rfl ?_
      refine ab_iload_n (k := 1) dX9_carBy_19 rfl rfl ?_
      refine z_icmp_ne (tgt := 25) dX9_carBy_20 (by decide) (by omega) (by omega) (fun c20 => ?_) (fun c20 => ?_)
      · skip
        refine z_iinc (k := 2) (v := (c : Int) + 1) (ls' := [(2, .int (iI ((c : Int) + 1))), (0, .ref 36), (1, .int (iI m)), (3, .int (iI (y : Int)))]) dX9_carBy_25 rfl rfl (by decide) rfl ?_
        refine z_iinc (k := 3) (v := (y : Int) + 1) (ls' := [(3, .int (iI ((y : Int) + 1))), (2, .int (iI ((c : Int) + 1))), (0, .ref 36), (1, .int (iI m))]) dX9_carBy_28 rfl rfl (by decide) rfl ?_
        refine ab_goto (tgt := 4) dX9_carBy_31 (by decide) ?_
        refine ab_sub (ls' := [(0, .ref 36), (1, .int (iI m)), (2, .int (iI ((c : Int) + 1))), (3, .int (iI ((y : Int) + 1)))]) (ks := [2, 3, 1, 0]) rfl ?_
        exact ih _ (by omega) (y + 1) (c + 1) _ rfl rfl (by omega) (by rw [hc]; rw [cB_s, if_pos g12.2.2]) (fun z hz hb => by
          by_cases e : z = y
          · subst e; rw [← hc]; assumption
          · exact hI z (by omega) hb)
      · skip
        refine ab_iload_n (k := 3) dX9_carBy_23 rfl rfl ?_
        refine z_iret dX9_carBy_24 rfl ?_
        exact K1 y (by omega) g12.2.2 (by rw [← hc]; omega)
    · skip
      try simp only [Int.toNat_natCast] at g12
      show ab_X (d + 1) mX9_carBy 15 [(0, .ref 36), (1, .int (iI m)), (2, .int (iI (c : Int))), (3, .int (iI (y : Int)))] [.int (iI 0)] h _
      refine z_if_eq (tgt := 28) dX9_carBy_15 (by decide) (by decide) (fun _ => ?_) (fun c15 => absurd c15 (by decide))
      refine z_iinc (k := 3) (v := (y : Int) + 1) (ls' := [(3, .int (iI ((y : Int) + 1))), (0, .ref 36), (1, .int (iI m)), (2, .int (iI (c : Int)))]) dX9_carBy_28 rfl rfl (by decide) rfl ?_
      refine ab_goto (tgt := 4) dX9_carBy_31 (by decide) ?_
      refine ab_sub (ls' := [(0, .ref 36), (1, .int (iI m)), (2, .int (iI (c : Int))), (3, .int (iI ((y : Int) + 1)))]) (ks := [1, 2, 3, 0]) rfl ?_
      exact ih _ (by omega) (y + 1) c _ rfl rfl (by omega) (by rw [hc]; rw [cB_s, if_neg (fun q => g12 ⟨by omega, by omega, q⟩)]; rfl) (fun z hz hb => by
        by_cases e : z = y
        · subst e; exact absurd ⟨by omega, by omega, hb⟩ g12
        · exact hI z (by omega) hb)
theorem c_carBy {d : Nat} {h : ab_H} {Q : ab_Q} {m : Int} (hm : inR m) (K1 : ∀ y : Nat, y < 20 → zv h 37 y = y → (cB (zv h 37) y : Int) = m → Q (some (.int (iI (y : Int)))) h) (K0 : (∀ y : Nat, y < 20 → zv h 37 y = y → ¬ (cB (zv h 37) y : Int) = m) → Q (some (.int (iI (-1)))) h) : ab_X (d + 1) mX9_carBy 0 (lv_args 0 [.ref 36, .int (iI m)]) [] h Q := by
  show ab_X (d + 1) mX9_carBy 0 [(0, .ref 36), (1, .int (iI m))] [] h Q
  refine z_iconst dX9_carBy_0 ?_
  refine ab_istore_n (ls' := [(2, .int (iI 0)), (0, .ref 36), (1, .int (iI m))]) dX9_carBy_1 rfl (by decide) rfl ?_
  refine z_iconst dX9_carBy_2 ?_
  refine ab_istore_n (ls' := [(3, .int (iI 0)), (2, .int (iI 0)), (0, .ref 36), (1, .int (iI m))]) dX9_carBy_3 rfl (by decide) rfl ?_
  refine ab_sub (ls' := [(0, .ref 36), (1, .int (iI m)), (2, .int (iI 0)), (3, .int (iI 0))]) (ks := [2, 3, 1, 0]) rfl ?_
  exact lp_carBy hm K1 K0 _ 0 0 h rfl rfl (by omega) rfl (fun z hz => by omega)
