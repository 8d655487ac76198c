/-! CONTRACTS OF THE MODEL: its changes -/
/-- of array a the places from o on, y of them, are as array b was from p on -/
def cpI (a b o p : Nat) (h0 h : ab_H) (y : Nat) : Prop := ∀ j, zv h a j = if o ≤ j ∧ j < o + y then zv h0 b (p + (j - o)) else zv h0 a j
theorem cpI_0 (a b o p : Nat) (h : ab_H) : cpI a b o p h h 0 := fun j => by rw [if_neg (by omega)]
theorem cpI_step {a b o p : Nat} {h0 h : ab_H} {y : Nat} {x : Int} {k : Nat} (hI : cpI a b o p h0 h y) (hk : k = o + y) (hx : x = zv h0 b (p + y)) : cpI a b o p h0 (zp h a k x) (y + 1) := by
  intro j
  subst hx
  subst hk
  rw [zv_zp (zv_R h0 b (p + y)), hI j]
  by_cases e : j = o + y
  · subst e; rw [if_pos ⟨rfl, rfl⟩, if_pos (by omega), show p + (o + y - o) = p + y by omega]
  · rw [if_neg (fun q => e q.2)]
    by_cases f : o ≤ j ∧ j < o + y
    · rw [if_pos f, if_pos (by omega)]
    · rw [if_neg f, if_neg (by omega)]
theorem cpI_ne {a b o p c k : Nat} {h0 h : ab_H} {y : Nat} {x : Int} (hI : cpI a b o p h0 h y) (hc : a ≠ c) : cpI a b o p h0 (zp h c k x) y := fun j => by rw [zv_zp_a hc]; exact hI j
def stI (h0 h : ab_H) (p y : Nat) : Prop := sm [211] h0 h ∧ ∀ j, zv h 211 j = if p ≤ j ∧ j < y then (p : Int) else zv h0 211 j
theorem stI_step {h0 h : ab_H} {p y : Nat} (hp : p ≤ y) (hp2 : p < 20) (hI : stI h0 h p y) : stI h0 (zp h 211 y (p : Int)) p (y + 1) := by
  refine ⟨hI.1.trans (sm_zp (by decide)), fun j => ?_⟩
  have hpR : inR (p : Int) := by omega
  rw [zv_zp hpR, hI.2 j]
  by_cases e : j = y
  · subst e; (repeat' split) <;> omega
  · (repeat' split) <;> omega
def mstR (h h' : ab_H) (p L : Nat) (s : Int) : Prop := sm [211, 212] h h' ∧ (∀ j, zv h' 211 j = if p ≤ j ∧ j < p + L then (p : Int) else zv h 211 j) ∧ ∀ j, zv h' 212 j = if j = p then s else zv h 212 j
theorem lp_mstand {d : Nat} {Q : ab_Q} {h0 : ab_H} {s p L : Nat} (hs : s < 4) (hL : zv h0 207 (2 * s) = L) (hL2 : L ≤ 9) (hp : p + L ≤ 20) (hp2 : p < 20) (K : ∀ h', mstR h0 h' p L s → Q none h') : ∀ (nn : Nat) (y : Nat) (h : ab_H), p + L - y = nn → (p ≤ y) → (y ≤ p + L) → (stI h0 h p y) → ab_X (d + 1) mX12_stand 2 [(0, .ref 200), (1, .int (iI (s : Int))), (2, .int (iI (p : Int))), (3, .int (iI (y : Int)))] [] h Q := by
  intro nn
  induction nn using Nat.strongRecOn with
  | ind nn ih =>
  intro y h hnn h1 h2 hI
  refine ab_iload_n (k := 3) dX12_stand_2 rfl rfl ?_
  refine ab_iload_n (k := 2) dX12_stand_3 rfl rfl ?_
  refine ab_aload_n (k := 0) dX12_stand_4 rfl rfl ?_
  refine ab_iload_n (k := 1) dX12_stand_5 rfl rfl ?_
  refine ab_callV (As := [.int (iI (s : Int))]) (rest := [.int (iI (p : Int)), .int (iI (y : Int))]) dX12_stand_6 lX12_312 rfl (Nat.le_of_ble_eq_true rfl) (Nat.le_of_ble_eq_true rfl) rfl ?_
  refine c_mlengthOf (by omega) ?_
  have bl6 := zv_R h 207 (2 * s)
  show ab_X (d + 1) mX12_stand 9 [(0, .ref 200), (1, .int (iI (s : Int))), (2, .int (iI (p : Int))), (3, .int (iI (y : Int)))] [.int (iI (zv h 207 (2 * s))), .int (iI (p : Int)), .int (iI (y : Int))] h _
  refine z_is (y := (L : Int)) ((hI.1.1 207 _ (by decide)).trans hL) ?_
  refine z_iadd dX12_stand_9 ?_
  refine z_icmp_ge (tgt := 26) dX12_stand_10 (by decide) (by omega) (by omega) (fun c10 => ?_) (fun c10 => ?_)
  · skip
    refine ab_aload_n (k := 0) dX12_stand_26 rfl rfl ?_
    refine z_getP (b := 212) dX12_stand_27 fX12_58 rfl rfl rfl ?_
    refine ab_iload_n (k := 2) dX12_stand_30 rfl rfl ?_
    refine ab_iload_n (k := 1) dX12_stand_31 rfl rfl ?_
    refine z_iast dX12_stand_32 rfl (by omega) (by omega) ?_
    simp only [Int.toNat_natCast]
    refine z_vret dX12_stand_33 rfl ?_
    have e : y = p + L := by omega
    subst e
    refine K _ ⟨(hI.1.mono (by decide)).trans (sm_zp (by decide)), fun j => ?_, fun j => ?_⟩
    · rw [zv_zp_a (by decide)]; exact hI.2 j
    · rw [zv_zp (by omega), hI.1.1 212 j (by decide)]; simp
  · skip
    refine ab_aload_n (k := 0) dX12_stand_13 rfl rfl ?_
    refine z_getP (b := 211) dX12_stand_14 fX12_55 rfl rfl rfl ?_
    refine ab_iload_n (k := 3) dX12_stand_17 rfl rfl ?_
    refine ab_iload_n (k := 2) dX12_stand_18 rfl rfl ?_
    refine z_iast dX12_stand_19 rfl (by omega) (by omega) ?_
    simp only [Int.toNat_natCast]
    refine z_iinc (k := 3) (v := (y : Int) + 1) (ls' := [(3, .int (iI ((y : Int) + 1))), (0, .ref 200), (1, .int (iI (s : Int))), (2, .int (iI (p : Int)))]) dX12_stand_20 rfl rfl (by decide) rfl ?_
    refine ab_goto (tgt := 2) dX12_stand_23 (by decide) ?_
    refine ab_sub (ls' := [(0, .ref 200), (1, .int (iI (s : Int))), (2, .int (iI (p : Int))), (3, .int (iI ((y : Int) + 1)))]) (ks := [1, 2, 3, 0]) rfl ?_
    exact ih _ (by omega) (y + 1) _ rfl (by omega) (by omega) (stI_step h1 hp2 hI)
theorem c_mstand {d : Nat} {h : ab_H} {Q : ab_Q} {s p L : Nat} (hs : s < 4) (hL : zv h 207 (2 * s) = L) (hL2 : L ≤ 9) (hp : p + L ≤ 20) (hp2 : p < 20) (K : ∀ h', mstR h h' p L s → Q none h') : ab_X (d + 1) mX12_stand 0 (lv_args 0 [.ref 200, .int (iI (s : Int)), .int (iI (p : Int))]) [] h Q := by
  show ab_X (d + 1) mX12_stand 0 [(0, .ref 200), (1, .int (iI (s : Int))), (2, .int (iI (p : Int)))] [] h Q
  refine ab_iload_n (k := 2) dX12_stand_0 rfl rfl ?_
  refine ab_istore_n (ls' := [(3, .int (iI (p : Int))), (0, .ref 200), (1, .int (iI (s : Int))), (2, .int (iI (p : Int)))]) dX12_stand_1 rfl (by decide) rfl ?_
  refine ab_sub (ls' := [(0, .ref 200), (1, .int (iI (s : Int))), (2, .int (iI (p : Int))), (3, .int (iI (p : Int)))]) (ks := [1, 2, 3, 0]) rfl ?_
  exact lp_mstand hs hL hL2 hp hp2 K _ p h rfl (Nat.le_refl p) (by omega) ⟨sm.refl, fun j => by rw [if_neg (by omega)]⟩
def gaI (h0 h : ab_H) (p y : Nat) : Prop := sm [211] h0 h ∧ ∀ j, zv h 211 j = if j < y ∧ zv h0 211 j = p then -1 else zv h0 211 j
theorem gaI_at {h0 h : ab_H} {p y : Nat} (hI : gaI h0 h p y) : zv h 211 y = zv h0 211 y := by rw [hI.2 y, if_neg (by omega)]
theorem gaI_step {h0 h : ab_H} {p y : Nat} (hI : gaI h0 h p y) (hy : zv h 211 y = p) : gaI h0 (zp h 211 y (-1)) p (y + 1) := by
  have e0 := gaI_at hI
  refine ⟨hI.1.trans (sm_zp (by decide)), fun j => ?_⟩
  rw [zv_zp (by decide), hI.2 j]
  by_cases e : j = y
  · subst e; (repeat' split) <;> omega
  · (repeat' split) <;> omega
theorem gaI_skip {h0 h : ab_H} {p y : Nat} (hI : gaI h0 h p y) (hy : ¬ zv h 211 y = p) : gaI h0 h p (y + 1) := by
  have e0 := gaI_at hI
  refine ⟨hI.1, fun j => ?_⟩
  rw [hI.2 j]
  by_cases e : j = y
  · subst e; (repeat' split) <;> omega
  · (repeat' split) <;> omega
def mgaR (h h' : ab_H) (p n : Nat) : Prop := sm [211, 212] h h' ∧ (∀ j, zv h' 211 j = if j < n ∧ zv h 211 j = p then -1 else zv h 211 j) ∧ ∀ j, zv h' 212 j = if j = p then -1 else zv h 212 j
theorem lp_goAway {d : Nat} {Q : ab_Q} {h0 : ab_H} {p n : Nat} (hn : zv h0 200 32 = n) (hn2 : n ≤ 20) (hp : p < 20) (K : ∀ h', mgaR h0 h' p n → Q none h') : ∀ (nn : Nat) (y : Nat) (h : ab_H), n - y = nn → (y ≤ n) → (gaI h0 h p y) → ab_X d mX12_goAway 2 [(0, .ref 200), (1, .int (iI (p : Int))), (2, .int (iI (y : Int)))] [] h Q := by
  intro nn
  induction nn using Nat.strongRecOn with
  | ind nn ih =>
  intro y h hnn h2 hI
  refine ab_iload_n (k := 2) dX12_goAway_2 rfl rfl ?_
  refine ab_aload_n (k := 0) dX12_goAway_3 rfl rfl ?_
  refine z_getI dX12_goAway_4 fX12_290 rfl (Or.inl rfl) ?_
  refine z_is (y := (n : Int)) ((hI.1.1 200 32 (by decide)).trans hn) ?_
  refine z_icmp_ge (tgt := 33) dX12_goAway_7 (by decide) (by omega) (by omega) (fun c7 => ?_) (fun c7 => ?_)
  · skip
    refine ab_aload_n (k := 0) dX12_goAway_33 rfl rfl ?_
    refine z_getP (b := 212) dX12_goAway_34 fX12_58 rfl rfl rfl ?_
    refine ab_iload_n (k := 1) dX12_goAway_37 rfl rfl ?_
    refine z_iconst dX12_goAway_38 ?_
    refine z_iast dX12_goAway_39 rfl (by omega) (by omega) ?_
    simp only [Int.toNat_natCast]
    refine z_vret dX12_goAway_40 rfl ?_
    have e : y = n := by omega
    subst e
    refine K _ ⟨(hI.1.mono (by decide)).trans (sm_zp (by decide)), fun j => ?_, fun j => ?_⟩
    · rw [zv_zp_a (by decide)]; exact hI.2 j
    · rw [zv_zp (by decide), hI.1.1 212 j (by decide)]; simp
  · skip
    refine ab_aload_n (k := 0) dX12_goAway_10 rfl rfl ?_
    refine z_getP (b := 211) dX12_goAway_11 fX12_55 rfl rfl rfl ?_
    refine ab_iload_n (k := 2) dX12_goAway_14 rfl rfl ?_
    refine z_iald dX12_goAway_15 rfl (by omega) (by omega) ?_
    simp only [Int.toNat_natCast]
    have b1 := zv_R h 211 y
    refine ab_iload_n (k := 1) dX12_goAway_16 rfl rfl ?_
    refine z_icmp_ne (tgt := 27) dX12_goAway_17 (by decide) (by omega) (by omega) (fun c17 => ?_) (fun c17 => ?_)
    · skip
      refine z_iinc (k := 2) (v := (y : Int) + 1) (ls' := [(2, .int (iI ((y : Int) + 1))), (0, .ref 200), (1, .int (iI (p : Int)))]) dX12_goAway_27 rfl rfl (by decide) rfl ?_
      refine ab_goto (tgt := 2) dX12_goAway_30 (by decide) ?_
      refine ab_sub (ls' := [(0, .ref 200), (1, .int (iI (p : Int))), (2, .int (iI ((y : Int) + 1)))]) (ks := [1, 2, 0]) rfl ?_
      first | exact ih _ (by omega) (y + 1) _ rfl (by omega) (gaI_step hI (by omega)) | exact ih _ (by omega) (y + 1) _ rfl (by omega) (gaI_skip hI (by omega))
    · skip
      refine ab_aload_n (k := 0) dX12_goAway_20 rfl rfl ?_
      refine z_getP (b := 211) dX12_goAway_21 fX12_55 rfl rfl rfl ?_
      refine ab_iload_n (k := 2) dX12_goAway_24 rfl rfl ?_
      refine z_iconst dX12_goAway_25 ?_
      refine z_iast dX12_goAway_26 rfl (by omega) (by omega) ?_
      simp only [Int.toNat_natCast]
      refine z_iinc (k := 2) (v := (y : Int) + 1) (ls' := [(2, .int (iI ((y : Int) + 1))), (0, .ref 200), (1, .int (iI (p : Int)))]) dX12_goAway_27 rfl rfl (by decide) rfl ?_
      refine ab_goto (tgt := 2) dX12_goAway_30 (by decide) ?_
      refine ab_sub (ls' := [(0, .ref 200), (1, .int (iI (p : Int))), (2, .int (iI ((y : Int) + 1)))]) (ks := [1, 2, 0]) rfl ?_
      first | exact ih _ (by omega) (y + 1) _ rfl (by omega) (gaI_step hI (by omega)) | exact ih _ (by omega) (y + 1) _ rfl (by omega) (gaI_skip hI (by omega))
theorem c_goAway {d : Nat} {h : ab_H} {Q : ab_Q} {p n : Nat} (hn : zv h 200 32 = n) (hn2 : n ≤ 20) (hp : p < 20) (K : ∀ h', mgaR h h' p n → Q none h') : ab_X d mX12_goAway 0 (lv_args 0 [.ref 200, .int (iI (p : Int))]) [] h Q := by
  show ab_X d mX12_goAway 0 [(0, .ref 200), (1, .int (iI (p : Int)))] [] h Q
  refine z_iconst dX12_goAway_0 ?_
  refine ab_istore_n (ls' := [(2, .int (iI 0)), (0, .ref 200), (1, .int (iI (p : Int)))]) dX12_goAway_1 rfl (by decide) rfl ?_
  refine ab_sub (ls' := [(0, .ref 200), (1, .int (iI (p : Int))), (2, .int (iI 0))]) (ks := [1, 2, 0]) rfl ?_
  exact lp_goAway hn hn2 hp K _ 0 h rfl (by omega) ⟨sm.refl, fun j => by rw [if_neg (by omega)]⟩
theorem lp_undo1 {d : Nat} {Q : ab_Q} {h0 : ab_H} {a : Nat} (ha : zv h0 200 37 = (a : Int)) (ha2 : a < 40) (K : ∀ h', sm [211, 212] h0 h' → cpI 211 214 0 (20 * a) h0 h' 20 → cpI 212 215 0 (20 * a) h0 h' 20 → ab_X d mX12_undo 78 [(0, .ref 200)] [] h' Q) : ∀ (nn : Nat) (y : Nat) (h : ab_H), 20 - y = nn → (y ≤ 20) → (sm [211, 212] h0 h) → (cpI 211 214 0 (20 * a) h0 h y) → (cpI 212 215 0 (20 * a) h0 h y) → ab_X d mX12_undo 26 [(0, .ref 200), (1, .int (iI (y : Int)))] [] h Q := by
  intro nn
  induction nn using Nat.strongRecOn with
  | ind nn ih =>
  intro y h hnn h2 hsm hI0 hI1
  refine ab_iload_n (k := 1) dX12_undo_26 rfl rfl ?_
  refine z_bipush dX12_undo_27 (by decide) ?_
  refine z_icmp_ge (tgt := 78) dX12_undo_29 (by decide) (by omega) (by decide) (fun c29 => ?_) (fun c29 => ?_)
  · skip
    refine ab_sub (ls' := [(0, .ref 200)]) (ks := [0]) rfl ?_
    have e : y = 20 := by omega
    subst e
    exact K h hsm hI0 hI1
  · skip
    refine ab_aload_n (k := 0) dX12_undo_32 rfl rfl ?_
    refine z_getP (b := 211) dX12_undo_33 fX12_55 rfl rfl rfl ?_
    refine ab_iload_n (k := 1) dX12_undo_36 rfl rfl ?_
    refine ab_aload_n (k := 0) dX12_undo_37 rfl rfl ?_
    refine z_getP (b := 214) dX12_undo_38 fX12_68 rfl rfl rfl ?_
    refine z_bipush dX12_undo_41 (by decide) ?_
    refine ab_aload_n (k := 0) dX12_undo_43 rfl rfl ?_
    refine z_getI dX12_undo_44 fX12_296 rfl (Or.inl rfl) ?_
    refine z_is (y := (a : Int)) ((hsm.1 200 37 (by decide)).trans ha) ?_
    refine z_imul dX12_undo_47 ?_
    refine ab_iload_n (k := 1) dX12_undo_48 rfl rfl ?_
    refine z_iadd dX12_undo_49 ?_
    refine z_is (y := ((20 * a + y : Nat) : Int)) (by omega) ?_
    refine z_iald dX12_undo_50 rfl (by omega) (by omega) ?_
    simp only [Int.toNat_natCast]
    refine z_is (y := zv h0 214 (20 * a + y)) (hsm.1 214 _ (by decide)) ?_
    refine z_iast dX12_undo_51 rfl (by omega) (by omega) ?_
    simp only [Int.toNat_natCast]
    refine ab_aload_n (k := 0) dX12_undo_52 rfl rfl ?_
    refine z_getP (b := 212) dX12_undo_53 fX12_58 rfl rfl rfl ?_
    refine ab_iload_n (k := 1) dX12_undo_56 rfl rfl ?_
    refine ab_aload_n (k := 0) dX12_undo_57 rfl rfl ?_
    refine z_getP (b := 215) dX12_undo_58 fX12_71 rfl rfl rfl ?_
    refine z_bipush dX12_undo_61 (by decide) ?_
    refine ab_aload_n (k := 0) dX12_undo_63 rfl rfl ?_
    refine z_getI dX12_undo_64 fX12_296 rfl (Or.inl rfl) ?_
    refine z_is (y := zv h 200 37) (zv_zp_a (by decide)) ?_
    refine z_is (y := (a : Int)) ((hsm.1 200 37 (by decide)).trans ha) ?_
    refine z_imul dX12_undo_67 ?_
    refine ab_iload_n (k := 1) dX12_undo_68 rfl rfl ?_
    refine z_iadd dX12_undo_69 ?_
    refine z_is (y := ((20 * a + y : Nat) : Int)) (by omega) ?_
    refine z_iald dX12_undo_70 rfl (by omega) (by omega) ?_
    simp only [Int.toNat_natCast]
    refine z_is (y := zv h 215 (20 * a + y)) (zv_zp_a (by decide)) ?_
    refine z_is (y := zv h0 215 (20 * a + y)) (hsm.1 215 _ (by decide)) ?_
    refine z_iast dX12_undo_71 rfl (by omega) (by omega) ?_
    simp only [Int.toNat_natCast]
    refine z_iinc (k := 1) (v := (y : Int) + 1) (ls' := [(1, .int (iI ((y : Int) + 1))), (0, .ref 200)]) dX12_undo_72 rfl rfl (by decide) rfl ?_
    refine ab_goto (tgt := 26) dX12_undo_75 (by decide) ?_
    refine ab_sub (ls' := [(0, .ref 200), (1, .int (iI ((y : Int) + 1)))]) (ks := [1, 0]) rfl ?_
    exact ih _ (by omega) (y + 1) _ rfl (by omega) ((hsm.trans (sm_zp (by decide))).trans (sm_zp (by decide))) (cpI_ne (cpI_step hI0 (by omega) (by rfl)) (by decide)) (cpI_step (cpI_ne hI1 (by decide)) (by omega) (by rfl))
theorem lp_undo2 {d : Nat} {Q : ab_Q} {h0 : ab_H} {a : Nat} (ha : zv h0 200 37 = (a : Int)) (ha2 : a < 40) (K : ∀ h', sm [213] h0 h' → cpI 213 216 0 (3 * a) h0 h' 3 → ab_X d mX12_undo 110 [(0, .ref 200)] [] h' Q) : ∀ (nn : Nat) (y : Nat) (h : ab_H), 3 - y = nn → (y ≤ 3) → (sm [213] h0 h) → (cpI 213 216 0 (3 * a) h0 h y) → ab_X d mX12_undo 80 [(0, .ref 200), (1, .int (iI (y : Int)))] [] h Q := by
  intro nn
  induction nn using Nat.strongRecOn with
  | ind nn ih =>
  intro y h hnn h2 hsm hI0
  refine ab_iload_n (k := 1) dX12_undo_80 rfl rfl ?_
  refine z_iconst dX12_undo_81 ?_
  refine z_icmp_ge (tgt := 110) dX12_undo_82 (by decide) (by omega) (by decide) (fun c82 => ?_) (fun c82 => ?_)
  · skip
    refine ab_sub (ls' := [(0, .ref 200)]) (ks := [0]) rfl ?_
    have e : y = 3 := by omega
    subst e
    exact K h hsm hI0
  · skip
    refine ab_aload_n (k := 0) dX12_undo_85 rfl rfl ?_
    refine z_getP (b := 213) dX12_undo_86 fX12_61 rfl rfl rfl ?_
    refine ab_iload_n (k := 1) dX12_undo_89 rfl rfl ?_
    refine ab_aload_n (k := 0) dX12_undo_90 rfl rfl ?_
    refine z_getP (b := 216) dX12_undo_91 fX12_74 rfl rfl rfl ?_
    refine z_iconst dX12_undo_94 ?_
    refine ab_aload_n (k := 0) dX12_undo_95 rfl rfl ?_
    refine z_getI dX12_undo_96 fX12_296 rfl (Or.inl rfl) ?_
    refine z_is (y := (a : Int)) ((hsm.1 200 37 (by decide)).trans ha) ?_
    refine z_imul dX12_undo_99 ?_
    refine ab_iload_n (k := 1) dX12_undo_100 rfl rfl ?_
    refine z_iadd dX12_undo_101 ?_
    refine z_is (y := ((3 * a + y : Nat) : Int)) (by omega) ?_
    refine z_iald dX12_undo_102 rfl (by omega) (by omega) ?_
    simp only [Int.toNat_natCast]
    refine z_is (y := zv h0 216 (3 * a + y)) (hsm.1 216 _ (by decide)) ?_
    refine z_iast dX12_undo_103 rfl (by omega) (by omega) ?_
    simp only [Int.toNat_natCast]
    refine z_iinc (k := 1) (v := (y : Int) + 1) (ls' := [(1, .int (iI ((y : Int) + 1))), (0, .ref 200)]) dX12_undo_104 rfl rfl (by decide) rfl ?_
    refine ab_goto (tgt := 80) dX12_undo_107 (by decide) ?_
    refine ab_sub (ls' := [(0, .ref 200), (1, .int (iI ((y : Int) + 1)))]) (ks := [1, 0]) rfl ?_
    exact ih _ (by omega) (y + 1) _ rfl (by omega) ((hsm.trans (sm_zp (by decide)))) (cpI_step hI0 (by omega) (by rfl))
def undR (h h' : ab_H) (a : Nat) : Prop := sm [200, 211, 212, 213] h h' ∧ (∀ j, j ≠ 37 → zv h' 200 j = zv h 200 j) ∧ zv h' 200 37 = a ∧ (∀ j, j < 20 → zv h' 211 j = zv h 214 (20 * a + j) ∧ zv h' 212 j = zv h 215 (20 * a + j)) ∧ ∀ j, j < 3 → zv h' 213 j = zv h 216 (3 * a + j)
theorem c_mundo {d : Nat} {h : ab_H} {Q : ab_Q} {h9 : ab_H} {a : Nat} (e9 : zp h 200 0 0 = h9) (ha : zv h9 200 37 = (a : Int)) (ha2 : a ≤ 40) (k0 : a = 0 → Q (some (.int (iI (-1)))) h9) (k1 : ∀ b h', a = b + 1 → undR h9 h' b → Q (some (.int (iI (b : Int)))) h') : ab_X d mX12_undo 0 (lv_args 0 [.ref 200]) [] h Q := by
  show ab_X d mX12_undo 0 [(0, .ref 200)] [] h Q
  refine ab_aload_n (k := 0) dX12_undo_0 rfl rfl ?_
  refine z_iconst dX12_undo_1 ?_
  refine z_putI dX12_undo_2 fX12_111 rfl rfl ?_
  rw [e9]
  refine ab_aload_n (k := 0) dX12_undo_5 rfl rfl ?_
  refine z_getI dX12_undo_6 fX12_296 rfl (Or.inl rfl) ?_
  refine z_is (y := (a : Int)) ha ?_
  refine z_if_ne (tgt := 14) dX12_undo_9 (by decide) (by omega) (fun c9 => ?_) (fun c9 => ?_)
  · skip
    refine ab_aload_n (k := 0) dX12_undo_14 rfl rfl ?_
    refine ab_dup dX12_undo_15 rfl ?_
    refine z_getI dX12_undo_16 fX12_296 rfl (Or.inl rfl) ?_
    refine z_is (y := (a : Int)) ha ?_
    refine z_iconst dX12_undo_19 ?_
    refine z_isub dX12_undo_20 ?_
    refine z_putI dX12_undo_21 fX12_296 rfl rfl ?_
    refine z_iconst dX12_undo_24 ?_
    refine ab_istore_n (ls' := [(1, .int (iI 0)), (0, .ref 200)]) dX12_undo_25 rfl (by decide) rfl ?_
    refine ab_sub (ls' := [(0, .ref 200), (1, .int (iI 0))]) (ks := [1, 0]) rfl ?_
    obtain ⟨b, rfl⟩ : ∃ b, a = b + 1 := ⟨a - 1, by omega⟩
    have eb : ((b + 1 : Nat) : Int) - 1 = (b : Int) := by omega
    rw [eb]
    have hb0 : zv (zp h9 200 37 (b : Int)) 200 37 = (b : Int) := zv_zp_s (by omega)
    refine lp_undo1 (h0 := zp h9 200 37 (b : Int)) (a := b) hb0 (by omega) (fun h1 s1 i1 i2 => ?_) _ 0 _ rfl (by omega) sm.refl (cpI_0 _ _ _ _ _) (cpI_0 _ _ _ _ _)
    refine z_iconst dX12_undo_78 ?_
    refine ab_istore_n (ls' := [(1, .int (iI 0)), (0, .ref 200)]) dX12_undo_79 rfl (by decide) rfl ?_
    refine ab_sub (ls' := [(0, .ref 200), (1, .int (iI 0))]) (ks := [1, 0]) rfl ?_
    refine lp_undo2 (h0 := h1) (a := b) ((s1.1 200 37 (by decide)).trans hb0) (by omega) (fun h2 s2 i3 => ?_) _ 0 _ rfl (by omega) sm.refl (cpI_0 _ _ _ _ _)
    refine ab_aload_n (k := 0) dX12_undo_110 rfl rfl ?_
    refine z_getI dX12_undo_111 fX12_296 rfl (Or.inl rfl) ?_
    refine z_is (y := (b : Int)) ((s2.1 200 37 (by decide)).trans ((s1.1 200 37 (by decide)).trans hb0)) ?_
    refine z_iret dX12_undo_114 rfl ?_
    refine k1 b h2 rfl ⟨((sm_zp (by decide)).trans (s1.mono (by decide))).trans (s2.mono (by decide)), fun j hj => ?_, ?_, fun j hj => ⟨?_, ?_⟩, fun j hj => ?_⟩
    · rw [s2.1 200 j (by decide), s1.1 200 j (by decide), zv_zp_ne (fun q => hj q.2)]
    · rw [s2.1 200 37 (by decide), s1.1 200 37 (by decide), hb0]
    · rw [s2.1 211 j (by decide), i1 j, if_pos (by omega), zv_zp_a (by decide), Nat.sub_zero]
    · rw [s2.1 212 j (by decide), i2 j, if_pos (by omega), zv_zp_a (by decide), Nat.sub_zero]
    · rw [i3 j, if_pos (by omega), s1.1 216 _ (by decide), zv_zp_a (by decide), Nat.sub_zero]
  · skip
    refine z_iconst dX12_undo_12 ?_
    refine z_iret dX12_undo_13 rfl ?_
    exact k0 (by omega)
theorem lp_image1 {d : Nat} {Q : ab_Q} {h0 : ab_H}   (K : ∀ h', sm [225, 226] h0 h' → cpI 225 211 0 0 h0 h' 20 → cpI 226 212 0 0 h0 h' 20 → ab_X (d + 1) mX12_image 52 [(0, .ref 200)] [] h' Q) : ∀ (nn : Nat) (y : Nat) (h : ab_H), 20 - y = nn → (y ≤ 20) → (sm [225, 226] h0 h) → (cpI 225 211 0 0 h0 h y) → (cpI 226 212 0 0 h0 h y) → ab_X (d + 1) mX12_image 16 [(0, .ref 200), (1, .int (iI (y : Int)))] [] h Q := by
  intro nn
  induction nn using Nat.strongRecOn with
  | ind nn ih =>
  intro y h hnn h2 hsm hI0 hI1
  refine ab_iload_n (k := 1) dX12_image_16 rfl rfl ?_
  refine z_bipush dX12_image_17 (by decide) ?_
  refine z_icmp_ge (tgt := 52) dX12_image_19 (by decide) (by omega) (by decide) (fun c19 => ?_) (fun c19 => ?_)
  · skip
    refine ab_sub (ls' := [(0, .ref 200)]) (ks := [0]) rfl ?_
    have e : y = 20 := by omega
    subst e
    exact K h hsm hI0 hI1
  · skip
    refine ab_aload_n (k := 0) dX12_image_22 rfl rfl ?_
    refine z_getP (b := 225) dX12_image_23 fX12_102 rfl rfl rfl ?_
    refine ab_iload_n (k := 1) dX12_image_26 rfl rfl ?_
    refine ab_aload_n (k := 0) dX12_image_27 rfl rfl ?_
    refine z_getP (b := 211) dX12_image_28 fX12_55 rfl rfl rfl ?_
    refine ab_iload_n (k := 1) dX12_image_31 rfl rfl ?_
    refine z_iald dX12_image_32 rfl (by omega) (by omega) ?_
    simp only [Int.toNat_natCast]
    refine z_is (y := zv h0 211 y) (hsm.1 211 _ (by decide)) ?_
    refine z_iast dX12_image_33 rfl (by omega) (by omega) ?_
    simp only [Int.toNat_natCast]
    refine ab_aload_n (k := 0) dX12_image_34 rfl rfl ?_
    refine z_getP (b := 226) dX12_image_35 fX12_105 rfl rfl rfl ?_
    refine ab_iload_n (k := 1) dX12_image_38 rfl rfl ?_
    refine ab_aload_n (k := 0) dX12_image_39 rfl rfl ?_
    refine z_getP (b := 212) dX12_image_40 fX12_58 rfl rfl rfl ?_
    refine ab_iload_n (k := 1) dX12_image_43 rfl rfl ?_
    refine z_iald dX12_image_44 rfl (by omega) (by omega) ?_
    simp only [Int.toNat_natCast]
    refine z_is (y := zv h 212 y) (zv_zp_a (by decide)) ?_
    refine z_is (y := zv h0 212 y) (hsm.1 212 _ (by decide)) ?_
    refine z_iast dX12_image_45 rfl (by omega) (by omega) ?_
    simp only [Int.toNat_natCast]
    refine z_iinc (k := 1) (v := (y : Int) + 1) (ls' := [(1, .int (iI ((y : Int) + 1))), (0, .ref 200)]) dX12_image_46 rfl rfl (by decide) rfl ?_
    refine ab_goto (tgt := 16) dX12_image_49 (by decide) ?_
    refine ab_sub (ls' := [(0, .ref 200), (1, .int (iI ((y : Int) + 1)))]) (ks := [1, 0]) rfl ?_
    exact ih _ (by omega) (y + 1) _ rfl (by omega) ((hsm.trans (sm_zp (by decide))).trans (sm_zp (by decide))) (cpI_ne (cpI_step hI0 (by omega) (by rw [Nat.zero_add])) (by decide)) (cpI_step (cpI_ne hI1 (by decide)) (by omega) (by rw [Nat.zero_add]))
theorem lp_image2 {d : Nat} {Q : ab_Q} {h0 : ab_H}   (K : ∀ h', sm [227] h0 h' → cpI 227 213 0 0 h0 h' 3 → ab_X (d + 1) mX12_image 77 [(0, .ref 200)] [] h' Q) : ∀ (nn : Nat) (y : Nat) (h : ab_H), 3 - y = nn → (y ≤ 3) → (sm [227] h0 h) → (cpI 227 213 0 0 h0 h y) → ab_X (d + 1) mX12_image 54 [(0, .ref 200), (1, .int (iI (y : Int)))] [] h Q := by
  intro nn
  induction nn using Nat.strongRecOn with
  | ind nn ih =>
  intro y h hnn h2 hsm hI0
  refine ab_iload_n (k := 1) dX12_image_54 rfl rfl ?_
  refine z_iconst dX12_image_55 ?_
  refine z_icmp_ge (tgt := 77) dX12_image_56 (by decide) (by omega) (by decide) (fun c56 => ?_) (fun c56 => ?_)
  · skip
    refine ab_sub (ls' := [(0, .ref 200)]) (ks := [0]) rfl ?_
    have e : y = 3 := by omega
    subst e
    exact K h hsm hI0
  · skip
    refine ab_aload_n (k := 0) dX12_image_59 rfl rfl ?_
    refine z_getP (b := 227) dX12_image_60 fX12_108 rfl rfl rfl ?_
    refine ab_iload_n (k := 1) dX12_image_63 rfl rfl ?_
    refine ab_aload_n (k := 0) dX12_image_64 rfl rfl ?_
    refine z_getP (b := 213) dX12_image_65 fX12_61 rfl rfl rfl ?_
    refine ab_iload_n (k := 1) dX12_image_68 rfl rfl ?_
    refine z_iald dX12_image_69 rfl (by omega) (by omega) ?_
    simp only [Int.toNat_natCast]
    refine z_is (y := zv h0 213 y) (hsm.1 213 _ (by decide)) ?_
    refine z_iast dX12_image_70 rfl (by omega) (by omega) ?_
    simp only [Int.toNat_natCast]
    refine z_iinc (k := 1) (v := (y : Int) + 1) (ls' := [(1, .int (iI ((y : Int) + 1))), (0, .ref 200)]) dX12_image_71 rfl rfl (by decide) rfl ?_
    refine ab_goto (tgt := 54) dX12_image_74 (by decide) ?_
    refine ab_sub (ls' := [(0, .ref 200), (1, .int (iI ((y : Int) + 1)))]) (ks := [1, 0]) rfl ?_
    exact ih _ (by omega) (y + 1) _ rfl (by omega) ((hsm.trans (sm_zp (by decide)))) (cpI_step hI0 (by omega) (by rw [Nat.zero_add]))
theorem lp_back1 {d : Nat} {Q : ab_Q} {h0 : ab_H}   (K : ∀ h', sm [211, 212] h0 h' → cpI 211 225 0 0 h0 h' 20 → cpI 212 226 0 0 h0 h' 20 → ab_X (d + 1) mX12_back 52 [(0, .ref 200)] [] h' Q) : ∀ (nn : Nat) (y : Nat) (h : ab_H), 20 - y = nn → (y ≤ 20) → (sm [211, 212] h0 h) → (cpI 211 225 0 0 h0 h y) → (cpI 212 226 0 0 h0 h y) → ab_X (d + 1) mX12_back 16 [(0, .ref 200), (1, .int (iI (y : Int)))] [] h Q := by
  intro nn
  induction nn using Nat.strongRecOn with
  | ind nn ih =>
  intro y h hnn h2 hsm hI0 hI1
  refine ab_iload_n (k := 1) dX12_back_16 rfl rfl ?_
  refine z_bipush dX12_back_17 (by decide) ?_
  refine z_icmp_ge (tgt := 52) dX12_back_19 (by decide) (by omega) (by decide) (fun c19 => ?_) (fun c19 => ?_)
  · skip
    refine ab_sub (ls' := [(0, .ref 200)]) (ks := [0]) rfl ?_
    have e : y = 20 := by omega
    subst e
    exact K h hsm hI0 hI1
  · skip
    refine ab_aload_n (k := 0) dX12_back_22 rfl rfl ?_
    refine z_getP (b := 211) dX12_back_23 fX12_55 rfl rfl rfl ?_
    refine ab_iload_n (k := 1) dX12_back_26 rfl rfl ?_
    refine ab_aload_n (k := 0) dX12_back_27 rfl rfl ?_
    refine z_getP (b := 225) dX12_back_28 fX12_102 rfl rfl rfl ?_
    refine ab_iload_n (k := 1) dX12_back_31 rfl rfl ?_
    refine z_iald dX12_back_32 rfl (by omega) (by omega) ?_
    simp only [Int.toNat_natCast]
    refine z_is (y := zv h0 225 y) (hsm.1 225 _ (by decide)) ?_
    refine z_iast dX12_back_33 rfl (by omega) (by omega) ?_
    simp only [Int.toNat_natCast]
    refine ab_aload_n (k := 0) dX12_back_34 rfl rfl ?_
    refine z_getP (b := 212) dX12_back_35 fX12_58 rfl rfl rfl ?_
    refine ab_iload_n (k := 1) dX12_back_38 rfl rfl ?_
    refine ab_aload_n (k := 0) dX12_back_39 rfl rfl ?_
    refine z_getP (b := 226) dX12_back_40 fX12_105 rfl rfl rfl ?_
    refine ab_iload_n (k := 1) dX12_back_43 rfl rfl ?_
    refine z_iald dX12_back_44 rfl (by omega) (by omega) ?_
    simp only [Int.toNat_natCast]
    refine z_is (y := zv h 226 y) (zv_zp_a (by decide)) ?_
    refine z_is (y := zv h0 226 y) (hsm.1 226 _ (by decide)) ?_
    refine z_iast dX12_back_45 rfl (by omega) (by omega) ?_
    simp only [Int.toNat_natCast]
    refine z_iinc (k := 1) (v := (y : Int) + 1) (ls' := [(1, .int (iI ((y : Int) + 1))), (0, .ref 200)]) dX12_back_46 rfl rfl (by decide) rfl ?_
    refine ab_goto (tgt := 16) dX12_back_49 (by decide) ?_
    refine ab_sub (ls' := [(0, .ref 200), (1, .int (iI ((y : Int) + 1)))]) (ks := [1, 0]) rfl ?_
    exact ih _ (by omega) (y + 1) _ rfl (by omega) ((hsm.trans (sm_zp (by decide))).trans (sm_zp (by decide))) (cpI_ne (cpI_step hI0 (by omega) (by rw [Nat.zero_add])) (by decide)) (cpI_step (cpI_ne hI1 (by decide)) (by omega) (by rw [Nat.zero_add]))
theorem lp_back2 {d : Nat} {Q : ab_Q} {h0 : ab_H}   (K : ∀ h', sm [213] h0 h' → cpI 213 227 0 0 h0 h' 3 → ab_X (d + 1) mX12_back 77 [(0, .ref 200)] [] h' Q) : ∀ (nn : Nat) (y : Nat) (h : ab_H), 3 - y = nn → (y ≤ 3) → (sm [213] h0 h) → (cpI 213 227 0 0 h0 h y) → ab_X (d + 1) mX12_back 54 [(0, .ref 200), (1, .int (iI (y : Int)))] [] h Q := by
  intro nn
  induction nn using Nat.strongRecOn with
  | ind nn ih =>
  intro y h hnn h2 hsm hI0
  refine ab_iload_n (k := 1) dX12_back_54 rfl rfl ?_
  refine z_iconst dX12_back_55 ?_
  refine z_icmp_ge (tgt := 77) dX12_back_56 (by decide) (by omega) (by decide) (fun c56 => ?_) (fun c56 => ?_)
  · skip
    refine ab_sub (ls' := [(0, .ref 200)]) (ks := [0]) rfl ?_
    have e : y = 3 := by omega
    subst e
    exact K h hsm hI0
  · skip
    refine ab_aload_n (k := 0) dX12_back_59 rfl rfl ?_
    refine z_getP (b := 213) dX12_back_60 fX12_61 rfl rfl rfl ?_
    refine ab_iload_n (k := 1) dX12_back_63 rfl rfl ?_
    refine ab_aload_n (k := 0) dX12_back_64 rfl rfl ?_
    refine z_getP (b := 227) dX12_back_65 fX12_108 rfl rfl rfl ?_
    refine ab_iload_n (k := 1) dX12_back_68 rfl rfl ?_
    refine z_iald dX12_back_69 rfl (by omega) (by omega) ?_
    simp only [Int.toNat_natCast]
    refine z_is (y := zv h0 227 y) (hsm.1 227 _ (by decide)) ?_
    refine z_iast dX12_back_70 rfl (by omega) (by omega) ?_
    simp only [Int.toNat_natCast]
    refine z_iinc (k := 1) (v := (y : Int) + 1) (ls' := [(1, .int (iI ((y : Int) + 1))), (0, .ref 200)]) dX12_back_71 rfl rfl (by decide) rfl ?_
    refine ab_goto (tgt := 54) dX12_back_74 (by decide) ?_
    refine ab_sub (ls' := [(0, .ref 200), (1, .int (iI ((y : Int) + 1)))]) (ks := [1, 0]) rfl ?_
    exact ih _ (by omega) (y + 1) _ rfl (by omega) ((hsm.trans (sm_zp (by decide)))) (cpI_step hI0 (by omega) (by rw [Nat.zero_add]))
def cp3R (a b c a' b' c' : Nat) (h h' : ab_H) : Prop := sm [200, a, b, c] h h' ∧ (∀ j, j < 20 → zv h' a j = zv h a' j ∧ zv h' b j = zv h b' j) ∧ ∀ j, j < 3 → zv h' c j = zv h c' j
theorem c_mimage {d : Nat} {h : ab_H} {Q : ab_Q} {h9 : ab_H} {n : Nat} (e9 : zp h 200 0 0 = h9) (hn : zv h9 200 32 = n) (hn2 : n ≤ 20) (k0 : zv h9 200 24 = 0 → Q (some (.int (iI (-1)))) h9) (k1 : ¬ zv h9 200 24 = 0 → ∀ h', cp3R 225 226 227 211 212 213 h9 h' → (∀ j, zv h' 200 j = zv h9 200 j) → Q (some (.int (iI (cB (zv h' 211) n : Int)))) (zp h' 200 54 1)) : ab_X (d + 1) mX12_image 0 (lv_args 0 [.ref 200]) [] h Q := by
  show ab_X (d + 1) mX12_image 0 [(0, .ref 200)] [] h Q
  refine ab_aload_n (k := 0) dX12_image_0 rfl rfl ?_
  refine z_iconst dX12_image_1 ?_
  refine z_putI dX12_image_2 fX12_111 rfl rfl ?_
  rw [e9]
  refine ab_aload_n (k := 0) dX12_image_5 rfl rfl ?_
  refine z_getI dX12_image_6 fX12_284 rfl (Or.inl rfl) ?_
  have b1 := zv_R h9 200 24
  refine z_if_ne (tgt := 14) dX12_image_9 (by decide) (by omega) (fun c9 => ?_) (fun c9 => ?_)
  · skip
    refine z_iconst dX12_image_14 ?_
    refine ab_istore_n (ls' := [(1, .int (iI 0)), (0, .ref 200)]) dX12_image_15 rfl (by decide) rfl ?_
    refine ab_sub (ls' := [(0, .ref 200), (1, .int (iI 0))]) (ks := [1, 0]) rfl ?_
    refine lp_image1 (h0 := h9) (fun h1 s1 i1 i2 => ?_) _ 0 _ rfl (by omega) sm.refl (cpI_0 _ _ _ _ _) (cpI_0 _ _ _ _ _)
    refine z_iconst dX12_image_52 ?_
    refine ab_istore_n (ls' := [(1, .int (iI 0)), (0, .ref 200)]) dX12_image_53 rfl (by decide) rfl ?_
    refine ab_sub (ls' := [(0, .ref 200), (1, .int (iI 0))]) (ks := [1, 0]) rfl ?_
    refine lp_image2 (h0 := h1) (fun h2 s2 i3 => ?_) _ 0 _ rfl (by omega) sm.refl (cpI_0 _ _ _ _ _)
    refine ab_aload_n (k := 0) dX12_image_77 rfl rfl ?_
    refine z_iconst dX12_image_78 ?_
    refine z_putZ dX12_image_79 fX12_299 rfl rfl (Or.inr rfl) ?_
    refine ab_aload_n (k := 0) dX12_image_82 rfl rfl ?_
    refine ab_callV (As := []) (rest := []) dX12_image_83 lX12_339 rfl (Nat.le_of_ble_eq_true rfl) (Nat.le_of_ble_eq_true rfl) rfl ?_
    refine c_carMany (n := n) ((zv_zp_ne (by decide)).trans ((s2.1 200 32 (by decide)).trans ((s1.1 200 32 (by decide)).trans hn))) hn2 ?_
    show ab_X (d + 1) mX12_image 86 [(0, .ref 200)] [.int (iI (cB (zv (zp h2 200 54 1) 211) n : Int))] (zp h2 200 54 1) _
    refine z_iret dX12_image_86 rfl ?_
    exact k1 (by omega) h2 ⟨(s1.mono (by decide)).trans (s2.mono (by decide)), fun j hj => ⟨by rw [s2.1 225 j (by decide), i1 j, if_pos (by omega), Nat.zero_add, Nat.sub_zero], by rw [s2.1 226 j (by decide), i2 j, if_pos (by omega), Nat.zero_add, Nat.sub_zero]⟩, fun j hj => by rw [i3 j, if_pos (by omega), Nat.zero_add, Nat.sub_zero, s1.1 213 j (by decide)]⟩ (fun j => by rw [s2.1 200 j (by decide), s1.1 200 j (by decide)])
  · skip
    refine z_iconst dX12_image_12 ?_
    refine z_iret dX12_image_13 rfl ?_
    exact k0 (by omega)
theorem c_mback {d : Nat} {h : ab_H} {Q : ab_Q} {h9 : ab_H} {n : Nat} (e9 : zp h 200 0 0 = h9) (hn : zv h9 200 32 = n) (hn2 : n ≤ 20) (k0 : zv h9 200 54 = 0 → Q (some (.int (iI (-1)))) h9) (k1 : ¬ zv h9 200 54 = 0 → ∀ h', cp3R 211 212 213 225 226 227 h9 h' → (∀ j, zv h' 200 j = zv h9 200 j) → Q (some (.int (iI (cB (zv h' 211) n : Int)))) (zp h' 200 37 0)) : ab_X (d + 1) mX12_back 0 (lv_args 0 [.ref 200]) [] h Q := by
  show ab_X (d + 1) mX12_back 0 [(0, .ref 200)] [] h Q
  refine ab_aload_n (k := 0) dX12_back_0 rfl rfl ?_
  refine z_iconst dX12_back_1 ?_
  refine z_putI dX12_back_2 fX12_111 rfl rfl ?_
  rw [e9]
  refine ab_aload_n (k := 0) dX12_back_5 rfl rfl ?_
  refine z_getI dX12_back_6 fX12_299 rfl (Or.inr rfl) ?_
  have b1 := zv_R h9 200 54
  refine z_if_ne (tgt := 14) dX12_back_9 (by decide) (by omega) (fun c9 => ?_) (fun c9 => ?_)
  · skip
    refine z_iconst dX12_back_14 ?_
    refine ab_istore_n (ls' := [(1, .int (iI 0)), (0, .ref 200)]) dX12_back_15 rfl (by decide) rfl ?_
    refine ab_sub (ls' := [(0, .ref 200), (1, .int (iI 0))]) (ks := [1, 0]) rfl ?_
    refine lp_back1 (h0 := h9) (fun h1 s1 i1 i2 => ?_) _ 0 _ rfl (by omega) sm.refl (cpI_0 _ _ _ _ _) (cpI_0 _ _ _ _ _)
    refine z_iconst dX12_back_52 ?_
    refine ab_istore_n (ls' := [(1, .int (iI 0)), (0, .ref 200)]) dX12_back_53 rfl (by decide) rfl ?_
    refine ab_sub (ls' := [(0, .ref 200), (1, .int (iI 0))]) (ks := [1, 0]) rfl ?_
    refine lp_back2 (h0 := h1) (fun h2 s2 i3 => ?_) _ 0 _ rfl (by omega) sm.refl (cpI_0 _ _ _ _ _)
    refine ab_aload_n (k := 0) dX12_back_77 rfl rfl ?_
    refine z_iconst dX12_back_78 ?_
    refine z_putI dX12_back_79 fX12_296 rfl rfl ?_
    refine ab_aload_n (k := 0) dX12_back_82 rfl rfl ?_
    refine ab_callV (As := []) (rest := []) dX12_back_83 lX12_339 rfl (Nat.le_of_ble_eq_true rfl) (Nat.le_of_ble_eq_true rfl) rfl ?_
    refine c_carMany (n := n) ((zv_zp_ne (by decide)).trans ((s2.1 200 32 (by decide)).trans ((s1.1 200 32 (by decide)).trans hn))) hn2 ?_
    show ab_X (d + 1) mX12_back 86 [(0, .ref 200)] [.int (iI (cB (zv (zp h2 200 37 0) 211) n : Int))] (zp h2 200 37 0) _
    refine z_iret dX12_back_86 rfl ?_
    exact k1 (by omega) h2 ⟨(s1.mono (by decide)).trans (s2.mono (by decide)), fun j hj => ⟨by rw [s2.1 211 j (by decide), i1 j, if_pos (by omega), Nat.zero_add, Nat.sub_zero], by rw [s2.1 212 j (by decide), i2 j, if_pos (by omega), Nat.zero_add, Nat.sub_zero]⟩, fun j hj => by rw [i3 j, if_pos (by omega), Nat.zero_add, Nat.sub_zero, s1.1 227 j (by decide)]⟩ (fun j => by rw [s2.1 200 j (by decide), s1.1 200 j (by decide)])
  · skip
    refine z_iconst dX12_back_12 ?_
    refine z_iret dX12_back_13 rfl ?_
    exact k0 (by omega)
theorem lp_rem1 {d : Nat} {Q : ab_Q} {h0 : ab_H}   (K : ∀ h', sm [214, 215] h0 h' → cpI 214 214 0 20 h0 h' 780 → cpI 215 215 0 20 h0 h' 780 → ab_X d mX12_remember 54 [(0, .ref 200)] [] h' Q) : ∀ (nn : Nat) (y : Nat) (h : ab_H), 780 - y = nn → (y ≤ 780) → (sm [214, 215] h0 h) → (cpI 214 214 0 20 h0 h y) → (cpI 215 215 0 20 h0 h y) → ab_X d mX12_remember 11 [(0, .ref 200), (1, .int (iI (y : Int)))] [] h Q := by
  intro nn
  induction nn using Nat.strongRecOn with
  | ind nn ih =>
  intro y h hnn h2 hsm hI0 hI1
  refine ab_iload_n (k := 1) dX12_remember_11 rfl rfl ?_
  refine z_sipush dX12_remember_12 (by decide) ?_
  refine z_icmp_ge (tgt := 54) dX12_remember_15 (by decide) (by omega) (by decide) (fun c15 => ?_) (fun c15 => ?_)
  · skip
    refine ab_sub (ls' := [(0, .ref 200)]) (ks := [0]) rfl ?_
    have e : y = 780 := by omega
    subst e
    exact K h hsm hI0 hI1
  · skip
    refine ab_aload_n (k := 0) dX12_remember_18 rfl rfl ?_
    refine z_getP (b := 214) dX12_remember_19 fX12_68 rfl rfl rfl ?_
    refine ab_iload_n (k := 1) dX12_remember_22 rfl rfl ?_
    refine ab_aload_n (k := 0) dX12_remember_23 rfl rfl ?_
    refine z_getP (b := 214) dX12_remember_24 fX12_68 rfl rfl rfl ?_
    refine ab_iload_n (k := 1) dX12_remember_27 rfl rfl ?_
    refine z_bipush dX12_remember_28 (by decide) ?_
    refine z_iadd dX12_remember_30 ?_
    refine z_is (y := ((20 + y : Nat) : Int)) (by omega) ?_
    refine z_iald dX12_remember_31 rfl (by omega) (by omega) ?_
    simp only [Int.toNat_natCast]
    refine z_is (y := zv h0 214 (20 + y)) ((hI0 _).trans (if_neg (by omega))) ?_
    refine z_iast dX12_remember_32 rfl (by omega) (by omega) ?_
    simp only [Int.toNat_natCast]
    refine ab_aload_n (k := 0) dX12_remember_33 rfl rfl ?_
    refine z_getP (b := 215) dX12_remember_34 fX12_71 rfl rfl rfl ?_
    refine ab_iload_n (k := 1) dX12_remember_37 rfl rfl ?_
    refine ab_aload_n (k := 0) dX12_remember_38 rfl rfl ?_
    refine z_getP (b := 215) dX12_remember_39 fX12_71 rfl rfl rfl ?_
    refine ab_iload_n (k := 1) dX12_remember_42 rfl rfl ?_
    refine z_bipush dX12_remember_43 (by decide) ?_
    refine z_iadd dX12_remember_45 ?_
    refine z_is (y := ((20 + y : Nat) : Int)) (by omega) ?_
    refine z_iald dX12_remember_46 rfl (by omega) (by omega) ?_
    simp only [Int.toNat_natCast]
    refine z_is (y := zv h 215 (20 + y)) (zv_zp_a (by decide)) ?_
    refine z_is (y := zv h0 215 (20 + y)) ((hI1 _).trans (if_neg (by omega))) ?_
    refine z_iast dX12_remember_47 rfl (by omega) (by omega) ?_
    simp only [Int.toNat_natCast]
    refine z_iinc (k := 1) (v := (y : Int) + 1) (ls' := [(1, .int (iI ((y : Int) + 1))), (0, .ref 200)]) dX12_remember_48 rfl rfl (by decide) rfl ?_
    refine ab_goto (tgt := 11) dX12_remember_51 (by decide) ?_
    refine ab_sub (ls' := [(0, .ref 200), (1, .int (iI ((y : Int) + 1)))]) (ks := [1, 0]) rfl ?_
    exact ih _ (by omega) (y + 1) _ rfl (by omega) ((hsm.trans (sm_zp (by decide))).trans (sm_zp (by decide))) (cpI_ne (cpI_step hI0 (by omega) (by rfl)) (by decide)) (cpI_step (cpI_ne hI1 (by decide)) (by omega) (by rfl))
theorem lp_rem2 {d : Nat} {Q : ab_Q} {h0 : ab_H}   (K : ∀ h', sm [216] h0 h' → cpI 216 216 0 3 h0 h' 117 → ab_X d mX12_remember 82 [(0, .ref 200)] [] h' Q) : ∀ (nn : Nat) (y : Nat) (h : ab_H), 117 - y = nn → (y ≤ 117) → (sm [216] h0 h) → (cpI 216 216 0 3 h0 h y) → ab_X d mX12_remember 56 [(0, .ref 200), (1, .int (iI (y : Int)))] [] h Q := by
  intro nn
  induction nn using Nat.strongRecOn with
  | ind nn ih =>
  intro y h hnn h2 hsm hI0
  refine ab_iload_n (k := 1) dX12_remember_56 rfl rfl ?_
  refine z_bipush dX12_remember_57 (by decide) ?_
  refine z_icmp_ge (tgt := 82) dX12_remember_59 (by decide) (by omega) (by decide) (fun c59 => ?_) (fun c59 => ?_)
  · skip
    refine ab_sub (ls' := [(0, .ref 200)]) (ks := [0]) rfl ?_
    have e : y = 117 := by omega
    subst e
    exact K h hsm hI0
  · skip
    refine ab_aload_n (k := 0) dX12_remember_62 rfl rfl ?_
    refine z_getP (b := 216) dX12_remember_63 fX12_74 rfl rfl rfl ?_
    refine ab_iload_n (k := 1) dX12_remember_66 rfl rfl ?_
    refine ab_aload_n (k := 0) dX12_remember_67 rfl rfl ?_
    refine z_getP (b := 216) dX12_remember_68 fX12_74 rfl rfl rfl ?_
    refine ab_iload_n (k := 1) dX12_remember_71 rfl rfl ?_
    refine z_iconst dX12_remember_72 ?_
    refine z_iadd dX12_remember_73 ?_
    refine z_is (y := ((3 + y : Nat) : Int)) (by omega) ?_
    refine z_iald dX12_remember_74 rfl (by omega) (by omega) ?_
    simp only [Int.toNat_natCast]
    refine z_is (y := zv h0 216 (3 + y)) ((hI0 _).trans (if_neg (by omega))) ?_
    refine z_iast dX12_remember_75 rfl (by omega) (by omega) ?_
    simp only [Int.toNat_natCast]
    refine z_iinc (k := 1) (v := (y : Int) + 1) (ls' := [(1, .int (iI ((y : Int) + 1))), (0, .ref 200)]) dX12_remember_76 rfl rfl (by decide) rfl ?_
    refine ab_goto (tgt := 56) dX12_remember_79 (by decide) ?_
    refine ab_sub (ls' := [(0, .ref 200), (1, .int (iI ((y : Int) + 1)))]) (ks := [1, 0]) rfl ?_
    exact ih _ (by omega) (y + 1) _ rfl (by omega) ((hsm.trans (sm_zp (by decide)))) (cpI_step hI0 (by omega) (by rfl))
theorem lp_rem3 {d : Nat} {Q : ab_Q} {h0 : ab_H} {a : Nat} (ha : zv h0 200 37 = (a : Int)) (ha2 : a < 40) (K : ∀ h', sm [214, 215] h0 h' → cpI 214 211 (20 * a) 0 h0 h' 20 → cpI 215 212 (20 * a) 0 h0 h' 20 → ab_X d mX12_remember 146 [(0, .ref 200)] [] h' Q) : ∀ (nn : Nat) (y : Nat) (h : ab_H), 20 - y = nn → (y ≤ 20) → (sm [214, 215] h0 h) → (cpI 214 211 (20 * a) 0 h0 h y) → (cpI 215 212 (20 * a) 0 h0 h y) → ab_X d mX12_remember 94 [(0, .ref 200), (1, .int (iI (y : Int)))] [] h Q := by
  intro nn
  induction nn using Nat.strongRecOn with
  | ind nn ih =>
  intro y h hnn h2 hsm hI0 hI1
  refine ab_iload_n (k := 1) dX12_remember_94 rfl rfl ?_
  refine z_bipush dX12_remember_95 (by decide) ?_
  refine z_icmp_ge (tgt := 146) dX12_remember_97 (by decide) (by omega) (by decide) (fun c97 => ?_) (fun c97 => ?_)
  · skip
    refine ab_sub (ls' := [(0, .ref 200)]) (ks := [0]) rfl ?_
    have e : y = 20 := by omega
    subst e
    exact K h hsm hI0 hI1
  · skip
    refine ab_aload_n (k := 0) dX12_remember_100 rfl rfl ?_
    refine z_getP (b := 214) dX12_remember_101 fX12_68 rfl rfl rfl ?_
    refine z_bipush dX12_remember_104 (by decide) ?_
    refine ab_aload_n (k := 0) dX12_remember_106 rfl rfl ?_
    refine z_getI dX12_remember_107 fX12_296 rfl (Or.inl rfl) ?_
    refine z_is (y := (a : Int)) ((hsm.1 200 37 (by decide)).trans ha) ?_
    refine z_imul dX12_remember_110 ?_
    refine ab_iload_n (k := 1) dX12_remember_111 rfl rfl ?_
    refine z_iadd dX12_remember_112 ?_
    refine z_is (y := ((20 * a + y : Nat) : Int)) (by omega) ?_
    refine ab_aload_n (k := 0) dX12_remember_113 rfl rfl ?_
    refine z_getP (b := 211) dX12_remember_114 fX12_55 rfl rfl rfl ?_
    refine ab_iload_n (k := 1) dX12_remember_117 rfl rfl ?_
    refine z_iald dX12_remember_118 rfl (by omega) (by omega) ?_
    simp only [Int.toNat_natCast]
    refine z_is (y := zv h0 211 y) (hsm.1 211 _ (by decide)) ?_
    refine z_iast dX12_remember_119 rfl (by omega) (by omega) ?_
    simp only [Int.toNat_natCast]
    refine ab_aload_n (k := 0) dX12_remember_120 rfl rfl ?_
    refine z_getP (b := 215) dX12_remember_121 fX12_71 rfl rfl rfl ?_
    refine z_bipush dX12_remember_124 (by decide) ?_
    refine ab_aload_n (k := 0) dX12_remember_126 rfl rfl ?_
    refine z_getI dX12_remember_127 fX12_296 rfl (Or.inl rfl) ?_
    refine z_is (y := zv h 200 37) (zv_zp_a (by decide)) ?_
    refine z_is (y := (a : Int)) ((hsm.1 200 37 (by decide)).trans ha) ?_
    refine z_imul dX12_remember_130 ?_
    refine ab_iload_n (k := 1) dX12_remember_131 rfl rfl ?_
    refine z_iadd dX12_remember_132 ?_
    refine z_is (y := ((20 * a + y : Nat) : Int)) (by omega) ?_
    refine ab_aload_n (k := 0) dX12_remember_133 rfl rfl ?_
    refine z_getP (b := 212) dX12_remember_134 fX12_58 rfl rfl rfl ?_
    refine ab_iload_n (k := 1) dX12_remember_137 rfl rfl ?_
    refine z_iald dX12_remember_138 rfl (by omega) (by omega) ?_
    simp only [Int.toNat_natCast]
    refine z_is (y := zv h 212 y) (zv_zp_a (by decide)) ?_
    refine z_is (y := zv h0 212 y) (hsm.1 212 _ (by decide)) ?_
    refine z_iast dX12_remember_139 rfl (by omega) (by omega) ?_
    simp only [Int.toNat_natCast]
    refine z_iinc (k := 1) (v := (y : Int) + 1) (ls' := [(1, .int (iI ((y : Int) + 1))), (0, .ref 200)]) dX12_remember_140 rfl rfl (by decide) rfl ?_
    refine ab_goto (tgt := 94) dX12_remember_143 (by decide) ?_
    refine ab_sub (ls' := [(0, .ref 200), (1, .int (iI ((y : Int) + 1)))]) (ks := [1, 0]) rfl ?_
    exact ih _ (by omega) (y + 1) _ rfl (by omega) ((hsm.trans (sm_zp (by decide))).trans (sm_zp (by decide))) (cpI_ne (cpI_step hI0 (by omega) (by rw [Nat.zero_add])) (by decide)) (cpI_step (cpI_ne hI1 (by decide)) (by omega) (by rw [Nat.zero_add]))
theorem lp_rem4 {d : Nat} {Q : ab_Q} {h0 : ab_H} {a : Nat} (ha : zv h0 200 37 = (a : Int)) (ha2 : a < 40) (K : ∀ h', sm [216] h0 h' → cpI 216 213 (3 * a) 0 h0 h' 3 → ab_X d mX12_remember 178 [(0, .ref 200)] [] h' Q) : ∀ (nn : Nat) (y : Nat) (h : ab_H), 3 - y = nn → (y ≤ 3) → (sm [216] h0 h) → (cpI 216 213 (3 * a) 0 h0 h y) → ab_X d mX12_remember 148 [(0, .ref 200), (1, .int (iI (y : Int)))] [] h Q := by
  intro nn
  induction nn using Nat.strongRecOn with
  | ind nn ih =>
  intro y h hnn h2 hsm hI0
  refine ab_iload_n (k := 1) dX12_remember_148 rfl rfl ?_
  refine z_iconst dX12_remember_149 ?_
  refine z_icmp_ge (tgt := 178) dX12_remember_150 (by decide) (by omega) (by decide) (fun c150 => ?_) (fun c150 => ?_)
  · skip
    refine ab_sub (ls' := [(0, .ref 200)]) (ks := [0]) rfl ?_
    have e : y = 3 := by omega
    subst e
    exact K h hsm hI0
  · skip
    refine ab_aload_n (k := 0) dX12_remember_153 rfl rfl ?_
    refine z_getP (b := 216) dX12_remember_154 fX12_74 rfl rfl rfl ?_
    refine z_iconst dX12_remember_157 ?_
    refine ab_aload_n (k := 0) dX12_remember_158 rfl rfl ?_
    refine z_getI dX12_remember_159 fX12_296 rfl (Or.inl rfl) ?_
    refine z_is (y := (a : Int)) ((hsm.1 200 37 (by decide)).trans ha) ?_
    refine z_imul dX12_remember_162 ?_
    refine ab_iload_n (k := 1) dX12_remember_163 rfl rfl ?_
    refine z_iadd dX12_remember_164 ?_
    refine z_is (y := ((3 * a + y : Nat) : Int)) (by omega) ?_
    refine ab_aload_n (k := 0) dX12_remember_165 rfl rfl ?_
    refine z_getP (b := 213) dX12_remember_166 fX12_61 rfl rfl rfl ?_
    refine ab_iload_n (k := 1) dX12_remember_169 rfl rfl ?_
    refine z_iald dX12_remember_170 rfl (by omega) (by omega) ?_
    simp only [Int.toNat_natCast]
    refine z_is (y := zv h0 213 y) (hsm.1 213 _ (by decide)) ?_
    refine z_iast dX12_remember_171 rfl (by omega) (by omega) ?_
    simp only [Int.toNat_natCast]
    refine z_iinc (k := 1) (v := (y : Int) + 1) (ls' := [(1, .int (iI ((y : Int) + 1))), (0, .ref 200)]) dX12_remember_172 rfl rfl (by decide) rfl ?_
    refine ab_goto (tgt := 148) dX12_remember_175 (by decide) ?_
    refine ab_sub (ls' := [(0, .ref 200), (1, .int (iI ((y : Int) + 1)))]) (ks := [1, 0]) rfl ?_
    exact ih _ (by omega) (y + 1) _ rfl (by omega) ((hsm.trans (sm_zp (by decide)))) (cpI_step hI0 (by omega) (by rw [Nat.zero_add]))
def rem2 (h h' : ab_H) (a : Nat) : Prop := sm [200, 214, 215, 216] h h' ∧ (∀ j, j ≠ 37 → zv h' 200 j = zv h 200 j) ∧ zv h' 200 37 = ((a + 1 : Nat) : Int) ∧ cpI 214 211 (20 * a) 0 h h' 20 ∧ cpI 215 212 (20 * a) 0 h h' 20 ∧ cpI 216 213 (3 * a) 0 h h' 3 ∧ ∀ j, wv h' 200 j = wv h 200 j
theorem c_rem2 {d : Nat} {h : ab_H} {Q : ab_Q} {a : Nat} (ha : zv h 200 37 = (a : Int)) (ha2 : a < 40) (K : ∀ h', rem2 h h' a → Q none h') : ab_X d mX12_remember 92 [(0, .ref 200)] [] h Q := by
  refine z_iconst dX12_remember_92 ?_
  refine ab_istore_n (ls' := [(1, .int (iI 0)), (0, .ref 200)]) dX12_remember_93 rfl (by decide) rfl ?_
  refine ab_sub (ls' := [(0, .ref 200), (1, .int (iI 0))]) (ks := [1, 0]) rfl ?_
  refine lp_rem3 (h0 := h) (a := a) ha ha2 (fun h1 s1 i1 i2 => ?_) _ 0 _ rfl (by omega) sm.refl (cpI_0 _ _ _ _ _) (cpI_0 _ _ _ _ _)
  refine z_iconst dX12_remember_146 ?_
  refine ab_istore_n (ls' := [(1, .int (iI 0)), (0, .ref 200)]) dX12_remember_147 rfl (by decide) rfl ?_
  refine ab_sub (ls' := [(0, .ref 200), (1, .int (iI 0))]) (ks := [1, 0]) rfl ?_
  refine lp_rem4 (h0 := h1) (a := a) ((s1.1 200 37 (by decide)).trans ha) ha2 (fun h2 s2 i3 => ?_) _ 0 _ rfl (by omega) sm.refl (cpI_0 _ _ _ _ _)
  refine ab_aload_n (k := 0) dX12_remember_178 rfl rfl ?_
  refine ab_dup dX12_remember_179 rfl ?_
  refine z_getI dX12_remember_180 fX12_296 rfl (Or.inl rfl) ?_
  refine z_is (y := (a : Int)) ((s2.1 200 37 (by decide)).trans ((s1.1 200 37 (by decide)).trans ha)) ?_
  refine z_iconst dX12_remember_183 ?_
  refine z_iadd dX12_remember_184 ?_
  refine z_putI dX12_remember_185 fX12_296 rfl rfl ?_
  refine z_vret dX12_remember_188 rfl ?_
  refine K _ ⟨((s1.mono (by decide)).trans (s2.mono (by decide))).trans (sm_zp (by decide)), fun j hj => ?_, ?_, fun j => ?_, fun j => ?_, fun j => ?_, fun j => (s2.2.1 200 j (by decide)).trans (s1.2.1 200 j (by decide))⟩
  · rw [zv_zp_ne (fun q => hj q.2), s2.1 200 j (by decide), s1.1 200 j (by decide)]
  · rw [zv_zp_s (by omega)]; rfl
  · rw [zv_zp_a (by decide), s2.1 214 j (by decide)]; exact i1 j
  · rw [zv_zp_a (by decide), s2.1 215 j (by decide)]; exact i2 j
  · rw [zv_zp_a (by decide), i3 j]; split
    · rw [s1.1 213 _ (by decide)]
    · rw [s1.1 216 _ (by decide)]
/-- one more act is put by: a of them were, at most 40 -/
def remR (h h' : ab_H) (a : Nat) : Prop := sm [200, 214, 215, 216] h h' ∧ (∀ j, j ≠ 37 → zv h' 200 j = zv h 200 j) ∧ zv h' 200 37 = ((min a 39 + 1 : Nat) : Int) ∧ (∀ i y, i ≤ min a 39 → y < 20 → zv h' 214 (20 * i + y) = (if i = min a 39 then zv h 211 y else zv h 214 (20 * (i + (a - min a 39)) + y)) ∧ zv h' 215 (20 * i + y) = (if i = min a 39 then zv h 212 y else zv h 215 (20 * (i + (a - min a 39)) + y))) ∧ (∀ i y, i ≤ min a 39 → y < 3 → zv h' 216 (3 * i + y) = if i = min a 39 then zv h 213 y else zv h 216 (3 * (i + (a - min a 39)) + y)) ∧ ∀ j, wv h' 200 j = wv h 200 j
theorem rem2_remR {h h' : ab_H} {a : Nat} (ha : a < 40) (r : rem2 h h' a) : remR h h' a := by
  obtain ⟨r1, r2, r3, r4, r5, r6, r7⟩ := r
  have em : min a 39 = a := by omega
  refine ⟨r1, r2, by rw [em]; exact r3, fun i y hi hy => ⟨?_, ?_⟩, fun i y hi hy => ?_, r7⟩
  · rw [r4, em]; by_cases e : i = a
    · subst e; rw [if_pos (by omega), if_pos rfl]; congr 1; omega
    · rw [if_neg (by omega), if_neg e]; congr 2; omega
  · rw [r5, em]; by_cases e : i = a
    · subst e; rw [if_pos (by omega), if_pos rfl]; congr 1; omega
    · rw [if_neg (by omega), if_neg e]; congr 2; omega
  · rw [r6, em]; by_cases e : i = a
    · subst e; rw [if_pos (by omega), if_pos rfl]; congr 1; omega
    · rw [if_neg (by omega), if_neg e]; congr 2; omega
theorem c_remember {d : Nat} {h : ab_H} {Q : ab_Q} {a : Nat} (ha : zv h 200 37 = (a : Int)) (ha2 : a ≤ 40) (K : ∀ h', remR h h' a → Q none h') : ab_X d mX12_remember 0 (lv_args 0 [.ref 200]) [] h Q := by
  show ab_X d mX12_remember 0 [(0, .ref 200)] [] h Q
  refine ab_aload_n (k := 0) dX12_remember_0 rfl rfl ?_
  refine z_getI dX12_remember_1 fX12_296 rfl (Or.inl rfl) ?_
  refine z_is (y := (a : Int)) ha ?_
  refine z_bipush dX12_remember_4 (by decide) ?_
  refine z_icmp_ne (tgt := 92) dX12_remember_6 (by decide) (by omega) (by decide) (fun c6 => ?_) (fun c6 => ?_)
  · skip
    refine ab_sub (ls' := [(0, .ref 200)]) (ks := [0]) rfl ?_
    exact c_rem2 ha (by omega) (fun h1 r => K h1 (rem2_remR (by omega) r))
  · skip
    refine z_iconst dX12_remember_9 ?_
    refine ab_istore_n (ls' := [(1, .int (iI 0)), (0, .ref 200)]) dX12_remember_10 rfl (by decide) rfl ?_
    refine ab_sub (ls' := [(0, .ref 200), (1, .int (iI 0))]) (ks := [1, 0]) rfl ?_
    have ea : a = 40 := by omega
    subst ea
    refine lp_rem1 (h0 := h) (fun h1 s1 i1 i2 => ?_) _ 0 _ rfl (by omega) sm.refl (cpI_0 _ _ _ _ _) (cpI_0 _ _ _ _ _)
    refine z_iconst dX12_remember_54 ?_
    refine ab_istore_n (ls' := [(1, .int (iI 0)), (0, .ref 200)]) dX12_remember_55 rfl (by decide) rfl ?_
    refine ab_sub (ls' := [(0, .ref 200), (1, .int (iI 0))]) (ks := [1, 0]) rfl ?_
    refine lp_rem2 (h0 := h1) (fun h2 s2 i3 => ?_) _ 0 _ rfl (by omega) sm.refl (cpI_0 _ _ _ _ _)
    refine ab_aload_n (k := 0) dX12_remember_82 rfl rfl ?_
    refine ab_dup dX12_remember_83 rfl ?_
    refine z_getI dX12_remember_84 fX12_296 rfl (Or.inl rfl) ?_
    refine z_is (y := 40) ((s2.1 200 37 (by decide)).trans ((s1.1 200 37 (by decide)).trans (by omega))) ?_
    refine z_iconst dX12_remember_87 ?_
    refine z_isub dX12_remember_88 ?_
    refine z_is (y := 39) rfl ?_
    refine z_putI dX12_remember_89 fX12_296 rfl rfl ?_
    refine ab_sub (ls' := [(0, .ref 200)]) (ks := [0]) rfl ?_
    refine c_rem2 (a := 39) (zv_zp_s (by decide)) (by decide) (fun h3 r => K h3 ?_)
    obtain ⟨r1, r2, r3, r4, r5, r6, r7⟩ := r
    refine ⟨(((s1.mono (by decide)).trans (s2.mono (by decide))).trans (sm_zp (by decide))).trans r1, fun j hj => ?_, r3, fun i y hi hy => ⟨?_, ?_⟩, fun i y hi hy => ?_, fun j => (r7 j).trans ((s2.2.1 200 j (by decide)).trans (s1.2.1 200 j (by decide)))⟩
    · rw [r2 j hj, zv_zp_ne (fun q => hj q.2), s2.1 200 j (by decide), s1.1 200 j (by decide)]
    · rw [r4]; by_cases e : i = 39
      · subst e; rw [if_pos (by omega), if_pos (show 39 = min 40 39 from rfl), zv_zp_a (by decide), s2.1 211 _ (by decide), s1.1 211 _ (by decide), show 0 + (20 * 39 + y - 20 * 39) = y by omega]
      · rw [if_neg (by omega), if_neg (show ¬ i = min 40 39 from e), zv_zp_a (by decide), s2.1 214 _ (by decide), i1, if_pos (by omega)]; congr 1; omega
    · rw [r5]; by_cases e : i = 39
      · subst e; rw [if_pos (by omega), if_pos (show 39 = min 40 39 from rfl), zv_zp_a (by decide), s2.1 212 _ (by decide), s1.1 212 _ (by decide), show 0 + (20 * 39 + y - 20 * 39) = y by omega]
      · rw [if_neg (by omega), if_neg (show ¬ i = min 40 39 from e), zv_zp_a (by decide), s2.1 215 _ (by decide), i2, if_pos (by omega)]; congr 1; omega
    · rw [r6]; by_cases e : i = 39
      · subst e; rw [if_pos (by omega), if_pos (show 39 = min 40 39 from rfl), zv_zp_a (by decide), s2.1 213 _ (by decide), s1.1 213 _ (by decide)]; congr 1; omega
      · rw [if_neg (by omega), if_neg (show ¬ i = min 40 39 from e), zv_zp_a (by decide), i3, if_pos (by omega), s1.1 216 _ (by decide)]; congr 1; omega
