/-! CONTRACTS OF THE MODEL: seeking, counting, bays, fewest, gaps -/
theorem c_costOf0 {d : Nat} {h : ab_H} {Q : ab_Q} {n : Nat} {c e w r : Int} (hk : 1 ≤ (n : Int) ∧ (n : Int) ≤ 50 ∧ 0 ≤ c ∧ c ≤ 100 ∧ 0 ≤ e ∧ e ≤ 50 ∧ 0 ≤ w ∧ w ≤ 99 ∧ 0 ≤ r ∧ r ≤ 9999) (K : ∀ h', sm [200] h h' → (∀ j, j ≠ 50 → zv h' 200 j = zv h 200 j) → zv h' 200 50 = (skF c e w n (1000 * r) (-1)).2 → Q (some (.int (iI (skF c e w n (1000 * r) (-1)).1))) h') : ab_X (d + 1) mX12_costOf 0 (lv_args 0 [.ref 200, .int (iI (n : Int)), .int (iI c), .int (iI e), .int (iI w), .int (iI r)]) [] h Q := by
  show ab_X (d + 1) mX12_costOf 0 [(0, .ref 200), (1, .int (iI (n : Int))), (2, .int (iI c)), (3, .int (iI e)), (4, .int (iI w)), (5, .int (iI r))] [] h Q
  refine z_sipush dX12_costOf_0 (by decide) ?_
  refine ab_iload (k := 5) dX12_costOf_3 rfl ?_
  refine z_imul dX12_costOf_5 ?_
  refine ab_istore (ls' := [(6, .int (iI (1000 * r))), (0, .ref 200), (1, .int (iI (n : Int))), (2, .int (iI c)), (3, .int (iI e)), (4, .int (iI w)), (5, .int (iI r))]) dX12_costOf_6 (by decide) rfl ?_
  refine ab_aload_n (k := 1) dX12_costOf_8 rfl rfl ?_
  refine z_iconst dX12_costOf_9 ?_
  refine z_putI dX12_costOf_10 fX12_440 rfl rfl ?_
  refine ab_iload_n (k := 2) dX12_costOf_13 rfl rfl ?_
  refine ab_istore (ls' := [(7, .int (iI (n : Int))), (6, .int (iI (1000 * r))), (0, .ref 200), (1, .int (iI (n : Int))), (2, .int (iI c)), (3, .int (iI e)), (4, .int (iI w)), (5, .int (iI r))]) dX12_costOf_14 (by decide) rfl ?_
  refine ab_sub (ls' := [(0, .ref 200), (1, .int (iI (n : Int))), (2, .int (iI c)), (3, .int (iI e)), (4, .int (iI w)), (5, .int (iI r)), (6, .int (iI (1000 * r))), (7, .int (iI (n : Int)))]) (ks := [2, 3, 4, 5, 6, 7, 1, 0]) rfl ?_
  exact lp_costOf hk K _ n _ (-1) _ rfl ⟨sm_zp (by decide), fun j hj => zv_zp_ne (fun z => hj z.2), zv_zp_s (by decide)⟩ (Nat.le_refl n) (by omega) (by omega) rfl
theorem c_costOf {d : Nat} {h : ab_H} {Q : ab_Q} {n c e w r : Int} (hk : 1 ≤ n ∧ n ≤ 50 ∧ 0 ≤ c ∧ c ≤ 100 ∧ 0 ≤ e ∧ e ≤ 50 ∧ 0 ≤ w ∧ w ≤ 99 ∧ 0 ≤ r ∧ r ≤ 9999) (K : ∀ h', sm [200] h h' → (∀ j, j ≠ 50 → zv h' 200 j = zv h 200 j) → zv h' 200 50 = (skF c e w n.toNat (1000 * r) (-1)).2 → Q (some (.int (iI (skF c e w n.toNat (1000 * r) (-1)).1))) h') : ab_X (d + 1) mX12_costOf 0 (lv_args 0 [.ref 200, .int (iI n), .int (iI c), .int (iI e), .int (iI w), .int (iI r)]) [] h Q := by
  obtain ⟨m, rfl⟩ : ∃ m : Nat, n = m := ⟨n.toNat, by omega⟩
  rw [Int.toNat_natCast] at K
  exact c_costOf0 hk K
theorem skF_b {c e w : Int} (hc : 0 ≤ c ∧ c ≤ 100) (he : 0 ≤ e ∧ e ≤ 50) (hw : 0 ≤ w ∧ w ≤ 99) : ∀ (p : Nat) (b f : Int), p ≤ 50 → 0 ≤ b ∧ b ≤ 9999000 → -1 ≤ f ∧ f ≤ 50 → (0 ≤ (skF c e w p b f).1 ∧ (skF c e w p b f).1 ≤ 9999000) ∧ -1 ≤ (skF c e w p b f).2 ∧ (skF c e w p b f).2 ≤ 50
  | 0, b, f, _, hb, hf => ⟨hb, hf⟩
  | p + 1, b, f, hp, hb, hf => by
    have hs1 := sk1_b (w := w) (e := e) (p := ((p + 1 : Nat) : Int)) hw he (by omega)
    have hs2 := skm_b (c := c) (x := min (sk1 w e ((p + 1 : Nat) : Int)) b) (b := b) hc (by omega) hb (by omega)
    rw [skF_s]
    refine skF_b hc he hw p _ _ (by omega) (tdiv100 ⟨hs2.1, hs2.2.1⟩) ?_
    split <;> omega
theorem c_mseek {d : Nat} {h : ab_H} {Q : ab_Q} {h9 : ab_H} {n c e w r : Int} (e9 : zp h 200 0 0 = h9) (h1 : inR n) (h2 : inR c) (h3 : inR e) (h4 : inR w) (h5 : inR r) (k1 : 1 ≤ n ∧ n ≤ 50 ∧ 0 ≤ c ∧ c ≤ 100 ∧ 0 ≤ e ∧ e ≤ 50 ∧ 0 ≤ w ∧ w ≤ 99 ∧ 0 ≤ r ∧ r ≤ 9999 → ∀ h', sm [200] h9 h' → (∀ j, j ≠ 50 → zv h' 200 j = zv h9 200 j) → Q (some (.int (iI ((skF c e w n.toNat (1000 * r) (-1)).1)))) h') (k0 : ¬ (1 ≤ n ∧ n ≤ 50 ∧ 0 ≤ c ∧ c ≤ 100 ∧ 0 ≤ e ∧ e ≤ 50 ∧ 0 ≤ w ∧ w ≤ 99 ∧ 0 ≤ r ∧ r ≤ 9999) → Q (some (.int (iI (-1)))) h9) : ab_X (d + 2) mX12_seek 0 (lv_args 0 [.ref 200, .int (iI n), .int (iI c), .int (iI e), .int (iI w), .int (iI r)]) [] h Q := by
  show ab_X (d + 2) mX12_seek 0 [(0, .ref 200), (1, .int (iI n)), (2, .int (iI c)), (3, .int (iI e)), (4, .int (iI w)), (5, .int (iI r))] [] h Q
  refine ab_aload_n (k := 0) dX12_seek_0 rfl rfl ?_
  refine z_iconst dX12_seek_1 ?_
  refine z_putI dX12_seek_2 fX12_111 rfl rfl ?_
  rw [e9]
  refine ab_aload_n (k := 0) dX12_seek_5 rfl rfl ?_
  refine ab_iload_n (k := 1) dX12_seek_6 rfl rfl ?_
  refine ab_iload_n (k := 2) dX12_seek_7 rfl rfl ?_
  refine ab_iload_n (k := 3) dX12_seek_8 rfl rfl ?_
  refine ab_iload (k := 4) dX12_seek_9 rfl ?_
  refine ab_iload (k := 5) dX12_seek_11 rfl ?_
  refine ab_callV (As := [.int (iI n), .int (iI c), .int (iI e), .int (iI w), .int (iI r)]) (rest := []) dX12_seek_13 lX12_442 rfl (Nat.le_of_ble_eq_true rfl) (Nat.le_of_ble_eq_true rfl) rfl ?_
  refine c_isSeek h1 h2 h3 h4 h5 (fun g13 => ?_) (fun g13 => ?_)
  · skip
    try simp only [Int.toNat_natCast] at g13
    have gL := g13
    show ab_X (d + 2) mX12_seek 16 [(0, .ref 200), (1, .int (iI n)), (2, .int (iI c)), (3, .int (iI e)), (4, .int (iI w)), (5, .int (iI r))] [.int (iI 1)] h9 _
    refine z_if_eq (tgt := 33) dX12_seek_16 (by decide) (by decide) (fun c16 => absurd c16 (by decide)) (fun _ => ?_)
    refine ab_aload_n (k := 0) dX12_seek_19 rfl rfl ?_
    refine ab_iload_n (k := 1) dX12_seek_20 rfl rfl ?_
    refine ab_iload_n (k := 2) dX12_seek_21 rfl rfl ?_
    refine ab_iload_n (k := 3) dX12_seek_22 rfl rfl ?_
    refine ab_iload (k := 4) dX12_seek_23 rfl ?_
    refine ab_iload (k := 5) dX12_seek_25 rfl ?_
    refine ab_callV (As := [.int (iI n), .int (iI c), .int (iI e), .int (iI w), .int (iI r)]) (rest := []) dX12_seek_27 lX12_446 rfl (Nat.le_of_ble_eq_true rfl) (Nat.le_of_ble_eq_true rfl) rfl ?_
    refine c_costOf (by omega) (fun h8 s8 t8 u8 => ?_)
    have bsk := skF_b (c := c) (e := e) (w := w) (by omega) (by omega) (by omega) n.toNat (1000 * r) (-1) (by omega) (by omega) (by omega)
    show ab_X (d + 2) mX12_seek 30 [(0, .ref 200), (1, .int (iI n)), (2, .int (iI c)), (3, .int (iI e)), (4, .int (iI w)), (5, .int (iI r))] [.int (iI ((skF c e w n.toNat (1000 * r) (-1)).1))] h8 _
    refine ab_goto (tgt := 34) dX12_seek_30 (by decide) ?_
    refine z_iret dX12_seek_34 rfl ?_
    first | exact k1 (by omega) h8 s8 t8 | exact k0 (by omega) | omega
  · skip
    try simp only [Int.toNat_natCast] at g13
    have gL := g13
    show ab_X (d + 2) mX12_seek 16 [(0, .ref 200), (1, .int (iI n)), (2, .int (iI c)), (3, .int (iI e)), (4, .int (iI w)), (5, .int (iI r))] [.int (iI 0)] h9 _
    refine z_if_eq (tgt := 33) dX12_seek_16 (by decide) (by decide) (fun _ => ?_) (fun c16 => absurd c16 (by decide))
    refine z_iconst dX12_seek_33 ?_
    refine z_iret dX12_seek_34 rfl ?_
    first | exact k1 (by omega) h8 s8 t8 | exact k0 (by omega) | omega
theorem c_mtake {d : Nat} {h : ab_H} {Q : ab_Q} {h9 : ab_H} {n c e w r : Int} (e9 : zp h 200 0 0 = h9) (h1 : inR n) (h2 : inR c) (h3 : inR e) (h4 : inR w) (h5 : inR r) (k1 : 1 ≤ n ∧ n ≤ 50 ∧ 0 ≤ c ∧ c ≤ 100 ∧ 0 ≤ e ∧ e ≤ 50 ∧ 0 ≤ w ∧ w ≤ 99 ∧ 0 ≤ r ∧ r ≤ 9999 → ∀ h', sm [200] h9 h' → (∀ j, j ≠ 50 → zv h' 200 j = zv h9 200 j) → Q (some (.int (iI ((skF c e w n.toNat (1000 * r) (-1)).2)))) h') (k0 : ¬ (1 ≤ n ∧ n ≤ 50 ∧ 0 ≤ c ∧ c ≤ 100 ∧ 0 ≤ e ∧ e ≤ 50 ∧ 0 ≤ w ∧ w ≤ 99 ∧ 0 ≤ r ∧ r ≤ 9999) → Q (some (.int (iI (-1)))) h9) : ab_X (d + 2) mX12_take 0 (lv_args 0 [.ref 200, .int (iI n), .int (iI c), .int (iI e), .int (iI w), .int (iI r)]) [] h Q := by
  show ab_X (d + 2) mX12_take 0 [(0, .ref 200), (1, .int (iI n)), (2, .int (iI c)), (3, .int (iI e)), (4, .int (iI w)), (5, .int (iI r))] [] h Q
  refine ab_aload_n (k := 0) dX12_take_0 rfl rfl ?_
  refine z_iconst dX12_take_1 ?_
  refine z_putI dX12_take_2 fX12_111 rfl rfl ?_
  rw [e9]
  refine ab_aload_n (k := 0) dX12_take_5 rfl rfl ?_
  refine ab_iload_n (k := 1) dX12_take_6 rfl rfl ?_
  refine ab_iload_n (k := 2) dX12_take_7 rfl rfl ?_
  refine ab_iload_n (k := 3) dX12_take_8 rfl rfl ?_
  refine ab_iload (k := 4) dX12_take_9 rfl ?_
  refine ab_iload (k := 5) dX12_take_11 rfl ?_
  refine ab_callV (As := [.int (iI n), .int (iI c), .int (iI e), .int (iI w), .int (iI r)]) (rest := []) dX12_take_13 lX12_442 rfl (Nat.le_of_ble_eq_true rfl) (Nat.le_of_ble_eq_true rfl) rfl ?_
  refine c_isSeek h1 h2 h3 h4 h5 (fun g13 => ?_) (fun g13 => ?_)
  · skip
    try simp only [Int.toNat_natCast] at g13
    have gL := g13
    show ab_X (d + 2) mX12_take 16 [(0, .ref 200), (1, .int (iI n)), (2, .int (iI c)), (3, .int (iI e)), (4, .int (iI w)), (5, .int (iI r))] [.int (iI 1)] h9 _
    refine z_if_ne (tgt := 21) dX12_take_16 (by decide) (by decide) (fun _ => ?_) (fun c16 => absurd c16 (by decide))
    refine ab_aload_n (k := 0) dX12_take_21 rfl rfl ?_
    refine ab_iload_n (k := 1) dX12_take_22 rfl rfl ?_
    refine ab_iload_n (k := 2) dX12_take_23 rfl rfl ?_
    refine ab_iload_n (k := 3) dX12_take_24 rfl rfl ?_
    refine ab_iload (k := 4) dX12_take_25 rfl ?_
    refine ab_iload (k := 5) dX12_take_27 rfl ?_
    refine ab_callV (As := [.int (iI n), .int (iI c), .int (iI e), .int (iI w), .int (iI r)]) (rest := []) dX12_take_29 lX12_446 rfl (Nat.le_of_ble_eq_true rfl) (Nat.le_of_ble_eq_true rfl) rfl ?_
    refine c_costOf (by omega) (fun h8 s8 t8 u8 => ?_)
    have bsk := skF_b (c := c) (e := e) (w := w) (by omega) (by omega) (by omega) n.toNat (1000 * r) (-1) (by omega) (by omega) (by omega)
    show ab_X (d + 2) mX12_take 32 [(0, .ref 200), (1, .int (iI n)), (2, .int (iI c)), (3, .int (iI e)), (4, .int (iI w)), (5, .int (iI r))] [.int (iI ((skF c e w n.toNat (1000 * r) (-1)).1))] h8 _
    refine ab_istore (ls' := [(6, .int (iI ((skF c e w n.toNat (1000 * r) (-1)).1))), (0, .ref 200), (1, .int (iI n)), (2, .int (iI c)), (3, .int (iI e)), (4, .int (iI w)), (5, .int (iI r))]) dX12_take_32 (by decide) rfl ?_
    refine ab_iload (k := 0) dX12_take_34 rfl ?_
    refine z_if_ge (tgt := 43) dX12_take_36 (by decide) (by omega) (fun c36 => ?_) (fun c36 => ?_)
    · skip
      refine ab_aload_n (k := 1) dX12_take_43 rfl rfl ?_
      refine z_getI dX12_take_44 fX12_440 rfl (Or.inl rfl) ?_
      refine z_is (y := (skF c e w n.toNat (1000 * r) (-1)).2) u8 ?_
      refine z_iret dX12_take_47 rfl ?_
      first | exact k1 (by omega) h8 s8 t8 | exact k0 (by omega) | omega
    · skip
      refine z_iconst dX12_take_39 ?_
      refine ab_goto (tgt := 47) dX12_take_40 (by decide) ?_
      refine z_iret dX12_take_47 rfl ?_
      first | exact k1 (by omega) h8 s8 t8 | exact k0 (by omega) | omega
  · skip
    try simp only [Int.toNat_natCast] at g13
    have gL := g13
    show ab_X (d + 2) mX12_take 16 [(0, .ref 200), (1, .int (iI n)), (2, .int (iI c)), (3, .int (iI e)), (4, .int (iI w)), (5, .int (iI r))] [.int (iI 0)] h9 _
    refine z_if_ne (tgt := 21) dX12_take_16 (by decide) (by decide) (fun c16 => absurd c16 (by decide)) (fun _ => ?_)
    refine z_iconst dX12_take_19 ?_
    refine z_iret dX12_take_20 rfl ?_
    first | exact k1 (by omega) h8 s8 t8 | exact k0 (by omega) | omega
theorem c_mcount {d : Nat} {h : ab_H} {Q : ab_Q} {h9 : ab_H} {n : Nat} {s : Int} (e9 : zp h 200 0 0 = h9) (hn : zv h9 200 32 = n) (hn2 : n ≤ 20) (hs : inR s) (k0 : s = 0 → Q (some (.int (iI (zv h9 200 32)))) h9) (k1 : s = 1 → Q (some (.int (iI (zv h9 200 24)))) h9) (k2 : s = 2 → Q (some (.int (iI (zv h9 200 7)))) h9) (k3 : s = 3 → Q (some (.int (iI (zv h9 200 6)))) h9) (k4 : s = 4 → Q (some (.int (iI (cB (zv h9 211) n : Int)))) h9) (k5 : s = 5 → Q (some (.int (iI (if zv h9 200 24 = 0 then 0 else zv h9 205 1)))) h9) (k6 : s = 6 → Q (some (.int (iI (if zv h9 200 24 = 0 then 0 else zv h9 205 2)))) h9) (k7 : s = 7 → Q (some (.int (iI (zv h9 200 37)))) h9) (k8 : s = 8 → Q (some (.int (iI (zv h9 213 0)))) h9) (k9 : s = 9 → Q (some (.int (iI (zv h9 213 1)))) h9) (k10 : s = 10 → Q (some (.int (iI (zv h9 213 2)))) h9) (kn : ¬ (0 ≤ s ∧ s ≤ 10) → Q (some (.int (iI (-1000000)))) h9) : ab_X (d + 1) mX12_count 0 (lv_args 0 [.ref 200, .int (iI s)]) [] h Q := by
  show ab_X (d + 1) mX12_count 0 [(0, .ref 200), (1, .int (iI s))] [] h Q
  refine ab_aload_n (k := 0) dX12_count_0 rfl rfl ?_
  refine z_iconst dX12_count_1 ?_
  refine z_putI dX12_count_2 fX12_111 rfl rfl ?_
  rw [e9]
  refine ab_iload_n (k := 1) dX12_count_5 rfl rfl ?_
  by_cases q6_0 : s = 0
  · skip
    refine z_swIn (tgt := 64) dX12_count_6 (by omega) (by omega) (by omega) (by rw [q6_0]; rfl) (by decide) ?_
    refine ab_aload_n (k := 0) dX12_count_64 rfl rfl ?_
    refine z_getI dX12_count_65 fX12_290 rfl (Or.inl rfl) ?_
    have b1 := zv_R h9 200 32
    refine z_iret dX12_count_68 rfl ?_
    exact k0 (by omega)
  by_cases q6_1 : s = 1
  · skip
    refine z_swIn (tgt := 69) dX12_count_6 (by omega) (by omega) (by omega) (by rw [q6_1]; rfl) (by decide) ?_
    refine ab_aload_n (k := 0) dX12_count_69 rfl rfl ?_
    refine z_getI dX12_count_70 fX12_284 rfl (Or.inl rfl) ?_
    have b2 := zv_R h9 200 24
    refine z_iret dX12_count_73 rfl ?_
    exact k1 (by omega)
  by_cases q6_2 : s = 2
  · skip
    refine z_swIn (tgt := 74) dX12_count_6 (by omega) (by omega) (by omega) (by rw [q6_2]; rfl) (by decide) ?_
    refine ab_aload_n (k := 0) dX12_count_74 rfl rfl ?_
    refine z_getI dX12_count_75 fX12_279 rfl (Or.inl rfl) ?_
    have b3 := zv_R h9 200 7
    refine z_iret dX12_count_78 rfl ?_
    exact k2 (by omega)
  by_cases q6_3 : s = 3
  · skip
    refine z_swIn (tgt := 79) dX12_count_6 (by omega) (by omega) (by omega) (by rw [q6_3]; rfl) (by decide) ?_
    refine ab_aload_n (k := 0) dX12_count_79 rfl rfl ?_
    refine z_getI dX12_count_80 fX12_124 rfl (Or.inl rfl) ?_
    have b4 := zv_R h9 200 6
    refine z_iret dX12_count_83 rfl ?_
    exact k3 (by omega)
  by_cases q6_4 : s = 4
  · skip
    refine z_swIn (tgt := 84) dX12_count_6 (by omega) (by omega) (by omega) (by rw [q6_4]; rfl) (by decide) ?_
    refine ab_aload_n (k := 0) dX12_count_84 rfl rfl ?_
    refine ab_callV (As := []) (rest := []) dX12_count_85 lX12_339 rfl (Nat.le_of_ble_eq_true rfl) (Nat.le_of_ble_eq_true rfl) rfl ?_
    refine c_carMany (n := n) hn hn2 ?_
    show ab_X (d + 1) mX12_count 88 [(0, .ref 200), (1, .int (iI s))] [.int (iI (cB (zv h9 211) n : Int))] h9 _
    refine z_iret dX12_count_88 rfl ?_
    exact k4 (by omega)
  by_cases q6_5 : s = 5
  · skip
    refine z_swIn (tgt := 89) dX12_count_6 (by omega) (by omega) (by omega) (by rw [q6_5]; rfl) (by decide) ?_
    refine ab_aload_n (k := 0) dX12_count_89 rfl rfl ?_
    refine z_getI dX12_count_90 fX12_284 rfl (Or.inl rfl) ?_
    have b5 := zv_R h9 200 24
    refine z_if_ne (tgt := 100) dX12_count_93 (by decide) (by omega) (fun c93 => ?_) (fun c93 => ?_)
    · skip
      refine ab_aload_n (k := 0) dX12_count_100 rfl rfl ?_
      refine z_getP (b := 205) dX12_count_101 fX12_37 rfl rfl rfl ?_
      refine z_iconst dX12_count_104 ?_
      refine z_iald dX12_count_105 rfl (by omega) (by omega) ?_
      show ab_X _ _ _ _ (.int (iI (zv h9 205 1)) :: _) _ _
      have b6 := zv_R h9 205 1
      refine z_iret dX12_count_106 rfl ?_
      have e := k5 (by omega)
      rw [if_neg (by assumption)] at e
      exact e
    · skip
      refine z_iconst dX12_count_96 ?_
      refine ab_goto (tgt := 106) dX12_count_97 (by decide) ?_
      refine z_iret dX12_count_106 rfl ?_
      have e := k5 (by omega)
      rw [if_pos (by assumption)] at e
      exact e
  by_cases q6_6 : s = 6
  · skip
    refine z_swIn (tgt := 107) dX12_count_6 (by omega) (by omega) (by omega) (by rw [q6_6]; rfl) (by decide) ?_
    refine ab_aload_n (k := 0) dX12_count_107 rfl rfl ?_
    refine z_getI dX12_count_108 fX12_284 rfl (Or.inl rfl) ?_
    have b7 := zv_R h9 200 24
    refine z_if_ne (tgt := 118) dX12_count_111 (by decide) (by omega) (fun c111 => ?_) (fun c111 => ?_)
    · skip
      refine ab_aload_n (k := 0) dX12_count_118 rfl rfl ?_
      refine z_getP (b := 205) dX12_count_119 fX12_37 rfl rfl rfl ?_
      refine z_iconst dX12_count_122 ?_
      refine z_iald dX12_count_123 rfl (by omega) (by omega) ?_
      show ab_X _ _ _ _ (.int (iI (zv h9 205 2)) :: _) _ _
      have b8 := zv_R h9 205 2
      refine z_iret dX12_count_124 rfl ?_
      have e := k6 (by omega)
      rw [if_neg (by assumption)] at e
      exact e
    · skip
      refine z_iconst dX12_count_114 ?_
      refine ab_goto (tgt := 124) dX12_count_115 (by decide) ?_
      refine z_iret dX12_count_124 rfl ?_
      have e := k6 (by omega)
      rw [if_pos (by assumption)] at e
      exact e
  by_cases q6_7 : s = 7
  · skip
    refine z_swIn (tgt := 125) dX12_count_6 (by omega) (by omega) (by omega) (by rw [q6_7]; rfl) (by decide) ?_
    refine ab_aload_n (k := 0) dX12_count_125 rfl rfl ?_
    refine z_getI dX12_count_126 fX12_296 rfl (Or.inl rfl) ?_
    have b9 := zv_R h9 200 37
    refine z_iret dX12_count_129 rfl ?_
    exact k7 (by omega)
  by_cases q6_8 : s = 8
  · skip
    refine z_swIn (tgt := 130) dX12_count_6 (by omega) (by omega) (by omega) (by rw [q6_8]; rfl) (by decide) ?_
    refine ab_aload_n (k := 0) dX12_count_130 rfl rfl ?_
    refine z_getP (b := 213) dX12_count_131 fX12_61 rfl rfl rfl ?_
    refine ab_iload_n (k := 1) dX12_count_134 rfl rfl ?_
    refine z_bipush dX12_count_135 (by decide) ?_
    refine z_isub dX12_count_137 ?_
    refine z_iald dX12_count_138 rfl (by omega) (by omega) ?_
    have b10 := zv_R h9 213 (s - 8).toNat
    refine z_iret dX12_count_139 rfl ?_
    have e := k8 (by omega)
    rw [show (s - 8).toNat = 0 by omega]
    exact e
  by_cases q6_9 : s = 9
  · skip
    refine z_swIn (tgt := 130) dX12_count_6 (by omega) (by omega) (by omega) (by rw [q6_9]; rfl) (by decide) ?_
    refine ab_aload_n (k := 0) dX12_count_130 rfl rfl ?_
    refine z_getP (b := 213) dX12_count_131 fX12_61 rfl rfl rfl ?_
    refine ab_iload_n (k := 1) dX12_count_134 rfl rfl ?_
    refine z_bipush dX12_count_135 (by decide) ?_
    refine z_isub dX12_count_137 ?_
    refine z_iald dX12_count_138 rfl (by omega) (by omega) ?_
    have b11 := zv_R h9 213 (s - 8).toNat
    refine z_iret dX12_count_139 rfl ?_
    have e := k9 (by omega)
    rw [show (s - 8).toNat = 1 by omega]
    exact e
  by_cases q6_10 : s = 10
  · skip
    refine z_swIn (tgt := 130) dX12_count_6 (by omega) (by omega) (by omega) (by rw [q6_10]; rfl) (by decide) ?_
    refine ab_aload_n (k := 0) dX12_count_130 rfl rfl ?_
    refine z_getP (b := 213) dX12_count_131 fX12_61 rfl rfl rfl ?_
    refine ab_iload_n (k := 1) dX12_count_134 rfl rfl ?_
    refine z_bipush dX12_count_135 (by decide) ?_
    refine z_isub dX12_count_137 ?_
    refine z_iald dX12_count_138 rfl (by omega) (by omega) ?_
    have b12 := zv_R h9 213 (s - 8).toNat
    refine z_iret dX12_count_139 rfl ?_
    have e := k10 (by omega)
    rw [show (s - 8).toNat = 2 by omega]
    exact e
  refine z_swOut (tgt := 140) dX12_count_6 (by omega) (by omega) (by decide) ?_
  refine z_ldcw (v := (-1000000)) dX12_count_140 qX12_452 (by decide) ?_
  refine z_iret dX12_count_143 rfl ?_
  exact kn (by omega)
/-- how many places of those that b divides, below n, from p on -/
def bay (fr : Nat → Bool) (L b n : Nat) : Nat → Nat → Nat
  | 0, _ => 0
  | k + 1, p => if p < n then bay fr L b n k (p + b) + (if allf fr L p = true then 1 else 0) else 0
theorem bay_s {fr : Nat → Bool} {L b n k p : Nat} (h : p < n) : bay fr L b n (k + 1) p = bay fr L b n k (p + b) + (if allf fr L p = true then 1 else 0) := if_pos h
theorem bay_out {fr : Nat → Bool} {L b n k p : Nat} (h : ¬ p < n) : bay fr L b n k p = 0 := by cases k; rfl; exact if_neg h
theorem bay_le (fr : Nat → Bool) (L b n : Nat) : ∀ k p, bay fr L b n k p ≤ k
  | 0, _ => Nat.le_refl 0
  | k + 1, p => by have := bay_le fr L b n k (p + b); unfold bay; (repeat' split) <;> omega
theorem lp_mbays {d : Nat} {Q : ab_Q} {h0 : ab_H} {n s L b tot : Nat} (hn : zv h0 200 32 = n) (hn2 : n ≤ 20) (hs : s < 4) (hL : zv h0 207 (2 * s) = L) (hL2 : L ≤ 9) (hb : 1 ≤ b ∧ b ≤ 9) (K : L ≤ b → Q (some (.int (iI (tot : Int)))) h0) (K0 : ¬ L ≤ b → Q (some (.int (iI 0))) h0) : ∀ (nn : Nat) (k : Nat) (p : Nat) (a : Nat) (h : ab_H), k = nn → (h = h0) → (n < p + k) → (p ≤ 40) → (a ≤ p) → (if L ≤ b then a + bay (mfr h0 n) L b n k p = tot else a = 0) → ab_X (d + 3) mX12_bays 32 [(0, .ref 200), (1, .int (iI (s : Int))), (2, .int (iI (b : Int))), (3, .int (iI (a : Int))), (4, .int (iI (p : Int)))] [] h Q := by
  intro nn
  induction nn using Nat.strongRecOn with
  | ind nn ih =>
  intro k p a h hnn hh h2 hp ha ht
  subst hh
  refine ab_iload (k := 4) dX12_bays_32 rfl ?_
  refine ab_aload_n (k := 0) dX12_bays_34 rfl rfl ?_
  refine z_getI dX12_bays_35 fX12_290 rfl (Or.inl rfl) ?_
  refine z_is (y := (n : Int)) hn ?_
  refine z_icmp_ge (tgt := 77) dX12_bays_38 (by decide) (by omega) (by omega) (fun c38 => ?_) (fun c38 => ?_)
  · skip
    refine ab_iload_n (k := 3) dX12_bays_77 rfl rfl ?_
    refine z_iret dX12_bays_78 rfl ?_
    by_cases q : L ≤ b
    · rw [if_pos q, bay_out (by omega)] at ht
      have e : a = tot := by omega
      rw [e]
      exact K q
    · rw [if_neg q] at ht
      rw [ht]
      exact K0 q
  · skip
    refine ab_iload_n (k := 2) dX12_bays_41 rfl rfl ?_
    refine ab_aload_n (k := 0) dX12_bays_42 rfl rfl ?_
    refine ab_iload_n (k := 1) dX12_bays_43 rfl rfl ?_
    refine ab_callV (As := [.int (iI (s : Int))]) (rest := [.int (iI (b : Int))]) dX12_bays_44 lX12_312 rfl (Nat.le_of_ble_eq_true rfl) (Nat.le_of_ble_eq_true rfl) rfl ?_
    refine c_mlengthOf (by omega) ?_
    have bl44 := zv_R h 207 (2 * s)
    show ab_X (d + 3) mX12_bays 47 [(0, .ref 200), (1, .int (iI (s : Int))), (2, .int (iI (b : Int))), (3, .int (iI (a : Int))), (4, .int (iI (p : Int)))] [.int (iI (zv h 207 (2 * s))), .int (iI (b : Int))] h _
    refine z_is (y := (L : Int)) hL ?_
    refine z_icmp_lt (tgt := 77) dX12_bays_47 (by decide) (by omega) (by omega) (fun c47 => ?_) (fun c47 => ?_)
    · skip
      refine ab_iload_n (k := 3) dX12_bays_77 rfl rfl ?_
      refine z_iret dX12_bays_78 rfl ?_
      rw [if_neg (by omega)] at ht
      rw [ht]
      exact K0 (by omega)
    · skip
      refine ab_iload_n (k := 3) dX12_bays_50 rfl rfl ?_
      refine ab_aload_n (k := 0) dX12_bays_51 rfl rfl ?_
      refine ab_iload_n (k := 1) dX12_bays_52 rfl rfl ?_
      refine ab_iload (k := 4) dX12_bays_53 rfl ?_
      refine ab_callV (As := [.int (iI (s : Int)), .int (iI (p : Int))]) (rest := [.int (iI (a : Int))]) dX12_bays_55 lX12_318 rfl (Nat.le_of_ble_eq_true rfl) (Nat.le_of_ble_eq_true rfl) rfl ?_
      refine c_mcanStop hn hn2 hs hL hL2 (by omega) (fun g55 => ?_) (fun g55 => ?_)
      · skip
        try simp only [Int.toNat_natCast] at g55
        have gL := g55
        show ab_X (d + 3) mX12_bays 58 [(0, .ref 200), (1, .int (iI (s : Int))), (2, .int (iI (b : Int))), (3, .int (iI (a : Int))), (4, .int (iI (p : Int)))] [.int (iI 1), .int (iI (a : Int))] h _
        refine z_if_eq (tgt := 65) dX12_bays_58 (by decide) (by decide) (fun c58 => absurd c58 (by decide)) (fun _ => ?_)
        refine z_iconst dX12_bays_61 ?_
        refine ab_goto (tgt := 66) dX12_bays_62 (by decide) ?_
        refine z_iadd dX12_bays_66 ?_
        refine ab_istore_n (ls' := [(3, .int (iI ((a : Int) + 1))), (0, .ref 200), (1, .int (iI (s : Int))), (2, .int (iI (b : Int))), (4, .int (iI (p : Int)))]) dX12_bays_67 rfl (by decide) rfl ?_
        refine ab_iload (k := 4) dX12_bays_68 rfl ?_
        refine ab_iload_n (k := 3) dX12_bays_70 rfl rfl ?_
        refine z_iadd dX12_bays_71 ?_
        refine ab_istore (ls' := [(4, .int (iI ((p : Int) + (b : Int)))), (3, .int (iI ((a : Int) + 1))), (0, .ref 200), (1, .int (iI (s : Int))), (2, .int (iI (b : Int)))]) dX12_bays_72 (by decide) rfl ?_
        refine ab_goto (tgt := 32) dX12_bays_74 (by decide) ?_
        refine ab_sub (ls' := [(0, .ref 200), (1, .int (iI (s : Int))), (2, .int (iI (b : Int))), (3, .int (iI ((a : Int) + 1))), (4, .int (iI ((p : Int) + (b : Int))))]) (ks := [2, 3, 4, 1, 0]) rfl ?_
        obtain ⟨k, rfl⟩ : ∃ z, k = z + 1 := ⟨k - 1, by omega⟩
        rw [if_pos (by omega), bay_s (by omega), if_pos gL] at ht
        exact ih _ (by omega) k (p + b) (a + 1) h rfl rfl (by omega) (by omega) (by omega) (by rw [if_pos (by omega)]; omega)
      · skip
        try simp only [Int.toNat_natCast] at g55
        have gL := g55
        show ab_X (d + 3) mX12_bays 58 [(0, .ref 200), (1, .int (iI (s : Int))), (2, .int (iI (b : Int))), (3, .int (iI (a : Int))), (4, .int (iI (p : Int)))] [.int (iI 0), .int (iI (a : Int))] h _
        refine z_if_eq (tgt := 65) dX12_bays_58 (by decide) (by decide) (fun _ => ?_) (fun c58 => absurd c58 (by decide))
        refine z_iconst dX12_bays_65 ?_
        refine z_iadd dX12_bays_66 ?_
        refine ab_istore_n (ls' := [(3, .int (iI ((a : Int) + 0))), (0, .ref 200), (1, .int (iI (s : Int))), (2, .int (iI (b : Int))), (4, .int (iI (p : Int)))]) dX12_bays_67 rfl (by decide) rfl ?_
        refine ab_iload (k := 4) dX12_bays_68 rfl ?_
        refine ab_iload_n (k := 3) dX12_bays_70 rfl rfl ?_
        refine z_iadd dX12_bays_71 ?_
        refine ab_istore (ls' := [(4, .int (iI ((p : Int) + (b : Int)))), (3, .int (iI ((a : Int) + 0))), (0, .ref 200), (1, .int (iI (s : Int))), (2, .int (iI (b : Int)))]) dX12_bays_72 (by decide) rfl ?_
        refine ab_goto (tgt := 32) dX12_bays_74 (by decide) ?_
        refine ab_sub (ls' := [(0, .ref 200), (1, .int (iI (s : Int))), (2, .int (iI (b : Int))), (3, .int (iI ((a : Int) + 0))), (4, .int (iI ((p : Int) + (b : Int))))]) (ks := [2, 3, 4, 1, 0]) rfl ?_
        obtain ⟨k, rfl⟩ : ∃ z, k = z + 1 := ⟨k - 1, by omega⟩
        rw [if_pos (by omega), bay_s (by omega), if_neg gL] at ht
        exact ih _ (by omega) k (p + b) a h rfl rfl (by omega) (by omega) (by omega) (by rw [if_pos (by omega)]; omega)
theorem c_mbays {d : Nat} {h : ab_H} {Q : ab_Q} {h9 : ab_H} {n s L b : Nat} (e9 : zp h 200 0 0 = h9) (hn : zv h9 200 32 = n) (hn2 : n ≤ 20) (hs : s < 4) (hL : zv h9 207 (2 * s) = L) (hL2 : L ≤ 9) (hv : (s : Int) < zv h9 200 24) (hb : 1 ≤ b ∧ b ≤ 9) (K : L ≤ b → Q (some (.int (iI (bay (mfr h9 n) L b n 21 0 : Int)))) h9) (K0 : ¬ L ≤ b → Q (some (.int (iI 0))) h9) : ab_X (d + 3) mX12_bays 0 (lv_args 0 [.ref 200, .int (iI (s : Int)), .int (iI (b : Int))]) [] h Q := by
  show ab_X (d + 3) mX12_bays 0 [(0, .ref 200), (1, .int (iI (s : Int))), (2, .int (iI (b : Int)))] [] h Q
  refine ab_aload_n (k := 0) dX12_bays_0 rfl rfl ?_
  refine z_iconst dX12_bays_1 ?_
  refine z_putI dX12_bays_2 fX12_111 rfl rfl ?_
  rw [e9]
  refine ab_aload_n (k := 0) dX12_bays_5 rfl rfl ?_
  refine ab_iload_n (k := 1) dX12_bays_6 rfl rfl ?_
  refine ab_callV (As := [.int (iI (s : Int))]) (rest := []) dX12_bays_7 lX12_307 rfl (Nat.le_of_ble_eq_true rfl) (Nat.le_of_ble_eq_true rfl) rfl ?_
  refine c_misSort (by omega) (fun g7 => ?_) (fun g7 => ?_)
  · skip
    try simp only [Int.toNat_natCast] at g7
    have gL := g7
    show ab_X (d + 3) mX12_bays 10 [(0, .ref 200), (1, .int (iI (s : Int))), (2, .int (iI (b : Int)))] [.int (iI 1)] h9 _
    refine z_if_eq (tgt := 25) dX12_bays_10 (by decide) (by decide) (fun c10 => absurd c10 (by decide)) (fun _ => ?_)
    refine ab_iload_n (k := 2) dX12_bays_13 rfl rfl ?_
    refine z_i2l dX12_bays_14 (by omega) ?_
    refine z_lconst (v := 1) dX12_bays_15 (by decide) ?_
    refine z_ldc2 (v := 9) dX12_bays_16 qX12_396 (by decide) ?_
    refine ab_callS (As := [.long (lL (b : Int)), .long (lL 1), .long (lL 9)]) (rest := []) dX12_bays_19 lX12_232 (Nat.le_of_ble_eq_true rfl) (Nat.le_of_ble_eq_true rfl) rfl ?_
    refine c_isIn (by omega) (by omega) (by omega) (fun g19 => ?_) (fun g19 => ?_)
    · skip
      try simp only [Int.toNat_natCast] at g19
      have gL := g19
      show ab_X (d + 3) mX12_bays 22 [(0, .ref 200), (1, .int (iI (s : Int))), (2, .int (iI (b : Int)))] [.int (iI 1)] h9 _
      refine z_if_ne (tgt := 27) dX12_bays_22 (by decide) (by decide) (fun _ => ?_) (fun c22 => absurd c22 (by decide))
      refine z_iconst dX12_bays_27 ?_
      refine ab_istore_n (ls' := [(3, .int (iI 0)), (0, .ref 200), (1, .int (iI (s : Int))), (2, .int (iI (b : Int)))]) dX12_bays_28 rfl (by decide) rfl ?_
      refine z_iconst dX12_bays_29 ?_
      refine ab_istore (ls' := [(4, .int (iI 0)), (3, .int (iI 0)), (0, .ref 200), (1, .int (iI (s : Int))), (2, .int (iI (b : Int)))]) dX12_bays_30 (by decide) rfl ?_
      refine ab_sub (ls' := [(0, .ref 200), (1, .int (iI (s : Int))), (2, .int (iI (b : Int))), (3, .int (iI 0)), (4, .int (iI 0))]) (ks := [2, 3, 4, 1, 0]) rfl ?_
      first | exact lp_mbays hn hn2 hs hL hL2 hb K K0 _ 21 0 0 h9 rfl rfl (by omega) (by omega) (by omega) (by split <;> omega) | exact absurd gL (by omega)
    · skip
      try simp only [Int.toNat_natCast] at g19
      have gL := g19
      show ab_X (d + 3) mX12_bays 22 [(0, .ref 200), (1, .int (iI (s : Int))), (2, .int (iI (b : Int)))] [.int (iI 0)] h9 _
      refine z_if_ne (tgt := 27) dX12_bays_22 (by decide) (by decide) (fun c22 => absurd c22 (by decide)) (fun _ => ?_)
      refine z_iconst dX12_bays_25 ?_
      refine z_iret dX12_bays_26 rfl ?_
      first | exact lp_mbays hn hn2 hs hL hL2 hb K K0 _ 21 0 0 h9 rfl rfl (by omega) (by omega) (by omega) (by split <;> omega) | exact absurd gL (by omega)
  · skip
    try simp only [Int.toNat_natCast] at g7
    have gL := g7
    show ab_X (d + 3) mX12_bays 10 [(0, .ref 200), (1, .int (iI (s : Int))), (2, .int (iI (b : Int)))] [.int (iI 0)] h9 _
    refine z_if_eq (tgt := 25) dX12_bays_10 (by decide) (by decide) (fun _ => ?_) (fun c10 => absurd c10 (by decide))
    refine z_iconst dX12_bays_25 ?_
    refine z_iret dX12_bays_26 rfl ?_
    first | exact lp_mbays hn hn2 hs hL hL2 hb K K0 _ 21 0 0 h9 rfl rfl (by omega) (by omega) (by omega) (by split <;> omega) | exact absurd gL (by omega)
theorem c_mbays0 {d : Nat} {h : ab_H} {Q : ab_Q} {h9 : ab_H} {s b : Int} (e9 : zp h 200 0 0 = h9) (hs : inR s) (hb : inR b) (hno : ¬ ((0 ≤ s ∧ s < zv h9 200 24) ∧ 1 ≤ b ∧ b ≤ 9)) (K : Q (some (.int (iI (-1)))) h9) : ab_X (d + 3) mX12_bays 0 (lv_args 0 [.ref 200, .int (iI s), .int (iI b)]) [] h Q := by
  show ab_X (d + 3) mX12_bays 0 [(0, .ref 200), (1, .int (iI s)), (2, .int (iI b))] [] h Q
  refine ab_aload_n (k := 0) dX12_bays_0 rfl rfl ?_
  refine z_iconst dX12_bays_1 ?_
  refine z_putI dX12_bays_2 fX12_111 rfl rfl ?_
  rw [e9]
  refine ab_aload_n (k := 0) dX12_bays_5 rfl rfl ?_
  refine ab_iload_n (k := 1) dX12_bays_6 rfl rfl ?_
  refine ab_callV (As := [.int (iI s)]) (rest := []) dX12_bays_7 lX12_307 rfl (Nat.le_of_ble_eq_true rfl) (Nat.le_of_ble_eq_true rfl) rfl ?_
  refine c_misSort (by omega) (fun g7 => ?_) (fun g7 => ?_)
  · skip
    try simp only [Int.toNat_natCast] at g7
    have gL := g7
    show ab_X (d + 3) mX12_bays 10 [(0, .ref 200), (1, .int (iI s)), (2, .int (iI b))] [.int (iI 1)] h9 _
    refine z_if_eq (tgt := 25) dX12_bays_10 (by decide) (by decide) (fun c10 => absurd c10 (by decide)) (fun _ => ?_)
    refine ab_iload_n (k := 2) dX12_bays_13 rfl rfl ?_
    refine z_i2l dX12_bays_14 (by omega) ?_
    refine z_lconst (v := 1) dX12_bays_15 (by decide) ?_
    refine z_ldc2 (v := 9) dX12_bays_16 qX12_396 (by decide) ?_
    refine ab_callS (As := [.long (lL b), .long (lL 1), .long (lL 9)]) (rest := []) dX12_bays_19 lX12_232 (Nat.le_of_ble_eq_true rfl) (Nat.le_of_ble_eq_true rfl) rfl ?_
    refine c_isIn (by omega) (by omega) (by omega) (fun g19 => ?_) (fun g19 => ?_)
    · skip
      try simp only [Int.toNat_natCast] at g19
      have gL := g19
      show ab_X (d + 3) mX12_bays 22 [(0, .ref 200), (1, .int (iI s)), (2, .int (iI b))] [.int (iI 1)] h9 _
      refine z_if_ne (tgt := 27) dX12_bays_22 (by decide) (by decide) (fun _ => ?_) (fun c22 => absurd c22 (by decide))
      refine z_iconst dX12_bays_27 ?_
      refine ab_istore_n (ls' := [(3, .int (iI 0)), (0, .ref 200), (1, .int (iI s)), (2, .int (iI b))]) dX12_bays_28 rfl (by decide) rfl ?_
      refine z_iconst dX12_bays_29 ?_
      refine ab_istore (ls' := [(4, .int (iI 0)), (3, .int (iI 0)), (0, .ref 200), (1, .int (iI s)), (2, .int (iI b))]) dX12_bays_30 (by decide) rfl ?_
      refine ab_sub (ls' := [(0, .ref 200), (1, .int (iI s)), (2, .int (iI b)), (3, .int (iI 0)), (4, .int (iI 0))]) (ks := [2, 3, 4, 1, 0]) rfl ?_
      first | exact K | exact absurd hno (by omega)
    · skip
      try simp only [Int.toNat_natCast] at g19
      have gL := g19
      show ab_X (d + 3) mX12_bays 22 [(0, .ref 200), (1, .int (iI s)), (2, .int (iI b))] [.int (iI 0)] h9 _
      refine z_if_ne (tgt := 27) dX12_bays_22 (by decide) (by decide) (fun c22 => absurd c22 (by decide)) (fun _ => ?_)
      refine z_iconst dX12_bays_25 ?_
      refine z_iret dX12_bays_26 rfl ?_
      first | exact K | exact absurd hno (by omega)
  · skip
    try simp only [Int.toNat_natCast] at g7
    have gL := g7
    show ab_X (d + 3) mX12_bays 10 [(0, .ref 200), (1, .int (iI s)), (2, .int (iI b))] [.int (iI 0)] h9 _
    refine z_if_eq (tgt := 25) dX12_bays_10 (by decide) (by decide) (fun _ => ?_) (fun c10 => absurd c10 (by decide))
    refine z_iconst dX12_bays_25 ?_
    refine z_iret dX12_bays_26 rfl ?_
    first | exact K | exact absurd hno (by omega)
theorem c_mmean0 {d : Nat} {h : ab_H} {Q : ab_Q} {h9 : ab_H} {n s L : Nat} (e9 : zp h 200 0 0 = h9) (hn : zv h9 200 32 = n) (hn2 : n ≤ 20) (hs : s < 4) (hL : zv h9 207 (2 * s) = L) (hL2 : 1 ≤ L ∧ L ≤ 9) (hv : (s : Int) < zv h9 200 24) (ho : 0 ≤ zv h9 205 1 ∧ zv h9 205 1 ≤ 100) (K : ∀ h1, wmI h9 h1 217 L 0 21 → Q (some (.long (lL (sT (fun y => mTb L 0 21 (gAt (mfr h1 n) y)) n)))) h1) : ab_X (d + 5) mX12_mean 0 (lv_args 0 [.ref 200, .int (iI (s : Int)), .int (iI 0)]) [] h Q := by
  show ab_X (d + 5) mX12_mean 0 [(0, .ref 200), (1, .int (iI (s : Int))), (2, .int (iI 0))] [] h Q
  refine ab_aload_n (k := 0) dX12_mean_0 rfl rfl ?_
  refine z_iconst dX12_mean_1 ?_
  refine z_putI dX12_mean_2 fX12_111 rfl rfl ?_
  rw [e9]
  refine ab_aload_n (k := 0) dX12_mean_5 rfl rfl ?_
  refine ab_iload_n (k := 1) dX12_mean_6 rfl rfl ?_
  refine ab_callV (As := [.int (iI (s : Int))]) (rest := []) dX12_mean_7 lX12_307 rfl (Nat.le_of_ble_eq_true rfl) (Nat.le_of_ble_eq_true rfl) rfl ?_
  refine c_misSort (by omega) (fun g7 => ?_) (fun g7 => ?_)
  · skip
    try simp only [Int.toNat_natCast] at g7
    have gL := g7
    show ab_X (d + 5) mX12_mean 10 [(0, .ref 200), (1, .int (iI (s : Int))), (2, .int (iI 0))] [.int (iI 1)] h9 _
    refine z_if_eq (tgt := 35) dX12_mean_10 (by decide) (by decide) (fun c10 => absurd c10 (by decide)) (fun _ => ?_)
    refine ab_aload_n (k := 0) dX12_mean_13 rfl rfl ?_
    refine ab_iload_n (k := 1) dX12_mean_14 rfl rfl ?_
    refine ab_iload_n (k := 2) dX12_mean_15 rfl rfl ?_
    refine z_if_eq (tgt := 28) dX12_mean_16 (by decide) (by decide) (fun _ => ?_) (fun c16 => absurd c16 (by decide))
    refine z_iconst dX12_mean_28 ?_
    refine ab_callV (As := [.int (iI (s : Int)), .int (iI 0)]) (rest := []) dX12_mean_29 lX12_382 rfl (Nat.le_of_ble_eq_true rfl) (Nat.le_of_ble_eq_true rfl) rfl ?_
    refine c_meanNow hn hn2 hs hL (by omega) (by omega) (fun h1 hw1 => ?_)
    show ab_X (d + 5) mX12_mean 32 [(0, .ref 200), (1, .int (iI (s : Int))), (2, .int (iI 0))] [.long (lL (sT (fun y => mTb L 0 21 (gAt (mfr h1 n) y)) n))] h1 _
    refine ab_goto (tgt := 38) dX12_mean_32 (by decide) ?_
    refine z_lret dX12_mean_38 rfl ?_
    first | exact K h1 hw1 | exact absurd gL (by omega)
  · skip
    try simp only [Int.toNat_natCast] at g7
    have gL := g7
    show ab_X (d + 5) mX12_mean 10 [(0, .ref 200), (1, .int (iI (s : Int))), (2, .int (iI 0))] [.int (iI 0)] h9 _
    refine z_if_eq (tgt := 35) dX12_mean_10 (by decide) (by decide) (fun _ => ?_) (fun c10 => absurd c10 (by decide))
    refine z_ldc2 (v := (-1)) dX12_mean_35 qX12_386 (by decide) ?_
    refine z_lret dX12_mean_38 rfl ?_
    first | exact K h1 hw1 | exact absurd gL (by omega)
theorem c_mmean1 {d : Nat} {h : ab_H} {Q : ab_Q} {h9 : ab_H} {n s L : Nat} (e9 : zp h 200 0 0 = h9) (hn : zv h9 200 32 = n) (hn2 : n ≤ 20) (hs : s < 4) (hL : zv h9 207 (2 * s) = L) (hL2 : 1 ≤ L ∧ L ≤ 9) (hv : (s : Int) < zv h9 200 24) (ho : 0 ≤ zv h9 205 1 ∧ zv h9 205 1 ≤ 100) (K : ∀ h1, wmI h9 h1 217 L (zv h9 205 1) 21 → Q (some (.long (lL (sT (fun y => mTb L (zv h9 205 1) 21 (gAt (mfr h1 n) y)) n)))) h1) : ab_X (d + 5) mX12_mean 0 (lv_args 0 [.ref 200, .int (iI (s : Int)), .int (iI 1)]) [] h Q := by
  show ab_X (d + 5) mX12_mean 0 [(0, .ref 200), (1, .int (iI (s : Int))), (2, .int (iI 1))] [] h Q
  refine ab_aload_n (k := 0) dX12_mean_0 rfl rfl ?_
  refine z_iconst dX12_mean_1 ?_
  refine z_putI dX12_mean_2 fX12_111 rfl rfl ?_
  rw [e9]
  refine ab_aload_n (k := 0) dX12_mean_5 rfl rfl ?_
  refine ab_iload_n (k := 1) dX12_mean_6 rfl rfl ?_
  refine ab_callV (As := [.int (iI (s : Int))]) (rest := []) dX12_mean_7 lX12_307 rfl (Nat.le_of_ble_eq_true rfl) (Nat.le_of_ble_eq_true rfl) rfl ?_
  refine c_misSort (by omega) (fun g7 => ?_) (fun g7 => ?_)
  · skip
    try simp only [Int.toNat_natCast] at g7
    have gL := g7
    show ab_X (d + 5) mX12_mean 10 [(0, .ref 200), (1, .int (iI (s : Int))), (2, .int (iI 1))] [.int (iI 1)] h9 _
    refine z_if_eq (tgt := 35) dX12_mean_10 (by decide) (by decide) (fun c10 => absurd c10 (by decide)) (fun _ => ?_)
    refine ab_aload_n (k := 0) dX12_mean_13 rfl rfl ?_
    refine ab_iload_n (k := 1) dX12_mean_14 rfl rfl ?_
    refine ab_iload_n (k := 2) dX12_mean_15 rfl rfl ?_
    refine z_if_eq (tgt := 28) dX12_mean_16 (by decide) (by decide) (fun c16 => absurd c16 (by decide)) (fun _ => ?_)
    refine ab_aload_n (k := 0) dX12_mean_19 rfl rfl ?_
    refine z_getP (b := 205) dX12_mean_20 fX12_37 rfl rfl rfl ?_
    refine z_iconst dX12_mean_23 ?_
    refine z_iald dX12_mean_24 rfl (by omega) (by omega) ?_
    show ab_X _ _ _ _ (.int (iI (zv h9 205 1)) :: _) _ _
    have b1 := zv_R h9 205 1
    refine ab_goto (tgt := 29) dX12_mean_25 (by decide) ?_
    refine ab_callV (As := [.int (iI (s : Int)), .int (iI (zv h9 205 1))]) (rest := []) dX12_mean_29 lX12_382 rfl (Nat.le_of_ble_eq_true rfl) (Nat.le_of_ble_eq_true rfl) rfl ?_
    refine c_meanNow hn hn2 hs hL (by omega) (by omega) (fun h1 hw1 => ?_)
    show ab_X (d + 5) mX12_mean 32 [(0, .ref 200), (1, .int (iI (s : Int))), (2, .int (iI 1))] [.long (lL (sT (fun y => mTb L (zv h9 205 1) 21 (gAt (mfr h1 n) y)) n))] h1 _
    refine ab_goto (tgt := 38) dX12_mean_32 (by decide) ?_
    refine z_lret dX12_mean_38 rfl ?_
    first | exact K h1 hw1 | exact absurd gL (by omega)
  · skip
    try simp only [Int.toNat_natCast] at g7
    have gL := g7
    show ab_X (d + 5) mX12_mean 10 [(0, .ref 200), (1, .int (iI (s : Int))), (2, .int (iI 1))] [.int (iI 0)] h9 _
    refine z_if_eq (tgt := 35) dX12_mean_10 (by decide) (by decide) (fun _ => ?_) (fun c10 => absurd c10 (by decide))
    refine z_ldc2 (v := (-1)) dX12_mean_35 qX12_386 (by decide) ?_
    refine z_lret dX12_mean_38 rfl ?_
    first | exact K h1 hw1 | exact absurd gL (by omega)
