/-! FAULT AND TEXT of the model -/
theorem narB {x : Int} (h : -128 ≤ x ∧ x ≤ 127) : vp_nar .byte (iI x) = iI x := by
  rw [vp_nar_byte]
  apply Int32.toInt.inj
  have e1 : ((iI x).toInt8.toInt32).toInt = (iI x).toInt.bmod 256 := by simp
  rw [e1, iI_toInt (by omega), Int.bmod_def]
  omega
theorem c_mfault0 {d : Nat} {h : ab_H} {Q : ab_Q} {h9 : ab_H} {T : Nat → Int} {z : Nat}  (e9 : zp h 200 0 0 = h9) (ht : tx T z) (hz1 : zv h9 200 6 = (z : Int)) (hT : ∀ i, i < z → zv h9 201 i = sby (T i)) (K1 : ∀ h' S', kRu T z = (-1, S') → F12 h9 h' → KMc h' S' → kOK S' → zv h' 200 11 = -1 → Q (some (.int (iI (-1)))) h') (K0 : ∀ h' w, (kRu T z).1 = w → ¬ w = -1 → F12 h9 h' → zv h' 200 11 = w → Q (some (.int (iI w))) h') : ab_X (d + 10) mX12_fault 0 (lv_args 0 [.ref 200, .int (iI 0)]) [] h Q := by
  show ab_X (d + 10) mX12_fault 0 [(0, .ref 200), (1, .int (iI 0))] [] h Q
  refine ab_aload_n (k := 0) dX12_fault_0 rfl rfl ?_
  refine z_iconst dX12_fault_1 ?_
  refine z_putI dX12_fault_2 fX12_111 rfl rfl ?_
  rw [e9]
  refine ab_iload_n (k := 1) dX12_fault_5 rfl rfl ?_
  refine z_i2l dX12_fault_6 (by decide) ?_
  refine z_lconst (v := 0) dX12_fault_7 (by decide) ?_
  refine z_lconst (v := 1) dX12_fault_8 (by decide) ?_
  refine ab_callS (As := [.long (lL 0), .long (lL 0), .long (lL 1)]) (rest := []) dX12_fault_9 lX12_232 (Nat.le_of_ble_eq_true rfl) (Nat.le_of_ble_eq_true rfl) rfl ?_
  refine c_isIn (by decide) (by decide) (by decide) (fun gi => ?_) (fun gi => ?_)
  · skip
    show ab_X (d + 10) mX12_fault 12 [(0, .ref 200), (1, .int (iI 0))] [.int (iI 1)] h9 _
    refine z_if_ne (tgt := 18) dX12_fault_12 (by decide) (by decide) (fun _ => ?_) (fun c12 => absurd c12 (by decide))
    refine ab_iload_n (k := 1) dX12_fault_18 rfl rfl ?_
    refine z_if_ne (tgt := 29) dX12_fault_19 (by decide) (by decide) (fun c19 => absurd c19 (by decide)) (fun _ => ?_)
    refine ab_aload_n (k := 0) dX12_fault_22 rfl rfl ?_
    refine ab_callV (As := []) (rest := []) dX12_fault_23 lX12_273 rfl (Nat.le_of_ble_eq_true rfl) (Nat.le_of_ble_eq_true rfl) rfl ?_
    refine c_mkread ht hz1 hT (fun l23 S23 j23 F23 C23 k23 u23 => ?_) (fun e23 w23 j23 n23 F23 u23 => ?_)
    · skip
      show ab_X (d + 10) mX12_fault 26 [(0, .ref 200), (1, .int (iI 0))] [] l23 _
      refine ab_goto (tgt := 42) dX12_fault_26 (by decide) ?_
      refine ab_aload_n (k := 0) dX12_fault_42 rfl rfl ?_
      refine z_getI dX12_fault_43 fX12_143 rfl (Or.inl rfl) ?_
      refine z_is (y := (-1)) u23 ?_
      refine z_iret dX12_fault_46 rfl ?_
      exact K1 _ _ j23 F23 C23 k23 u23
    · skip
      show ab_X (d + 10) mX12_fault 26 [(0, .ref 200), (1, .int (iI 0))] [] e23 _
      refine ab_goto (tgt := 42) dX12_fault_26 (by decide) ?_
      refine ab_aload_n (k := 0) dX12_fault_42 rfl rfl ?_
      refine z_getI dX12_fault_43 fX12_143 rfl (Or.inl rfl) ?_
      refine z_is (y := w23) u23 ?_
      refine z_iret dX12_fault_46 rfl ?_
      exact K0 _ _ j23 n23 F23 u23
  · skip
    exfalso; omega
theorem c_mfault1 {d : Nat} {h : ab_H} {Q : ab_Q} {h9 : ab_H} {T : Nat → Int} {z : Nat} {env : Nat → Int}  (e9 : zp h 200 0 0 = h9) (ht : tx T z) (hz1 : zv h9 200 6 = (z : Int)) (hT : ∀ i, i < z → zv h9 201 i = sby (T i)) (hE : ∀ s, ¬ li s = -1 → zv h9 204 s.toNat = env (li s).toNat ∧ -1000000 ≤ env (li s).toNat ∧ env (li s).toNat ≤ 1000000) (K : ∀ h', F11 h9 h' → Q (some (.int (iI ((pRu T z).1)))) h') : ab_X (d + 35) mX12_fault 0 (lv_args 0 [.ref 200, .int (iI 1)]) [] h Q := by
  show ab_X (d + 35) mX12_fault 0 [(0, .ref 200), (1, .int (iI 1))] [] h Q
  have hz := ht.1
  refine ab_aload_n (k := 0) dX12_fault_0 rfl rfl ?_
  refine z_iconst dX12_fault_1 ?_
  refine z_putI dX12_fault_2 fX12_111 rfl rfl ?_
  rw [e9]
  refine ab_iload_n (k := 1) dX12_fault_5 rfl rfl ?_
  refine z_i2l dX12_fault_6 (by decide) ?_
  refine z_lconst (v := 0) dX12_fault_7 (by decide) ?_
  refine z_lconst (v := 1) dX12_fault_8 (by decide) ?_
  refine ab_callS (As := [.long (lL 1), .long (lL 0), .long (lL 1)]) (rest := []) dX12_fault_9 lX12_232 (Nat.le_of_ble_eq_true rfl) (Nat.le_of_ble_eq_true rfl) rfl ?_
  refine c_isIn (by decide) (by decide) (by decide) (fun gi => ?_) (fun gi => ?_)
  · skip
    show ab_X (d + 35) mX12_fault 12 [(0, .ref 200), (1, .int (iI 1))] [.int (iI 1)] h9 _
    refine z_if_ne (tgt := 18) dX12_fault_12 (by decide) (by decide) (fun _ => ?_) (fun c12 => absurd c12 (by decide))
    refine ab_iload_n (k := 1) dX12_fault_18 rfl rfl ?_
    refine z_if_ne (tgt := 29) dX12_fault_19 (by decide) (by decide) (fun _ => ?_) (fun c19 => absurd c19 (by decide))
    refine ab_aload_n (k := 0) dX12_fault_29 rfl rfl ?_
    refine ab_aload_n (k := 0) dX12_fault_30 rfl rfl ?_
    refine z_getP (b := 201) dX12_fault_31 fX12_9 rfl rfl rfl ?_
    refine z_iconst dX12_fault_34 ?_
    refine ab_aload_n (k := 0) dX12_fault_35 rfl rfl ?_
    refine z_getI dX12_fault_36 fX12_124 rfl (Or.inl rfl) ?_
    refine z_is (y := (z : Int)) hz1 ?_
    refine ab_callV (As := [.ref 201, .int (iI 0), .int (iI (z : Int))]) (rest := []) dX12_fault_39 lX12_276 rfl (Nat.le_of_ble_eq_true rfl) (Nat.le_of_ble_eq_true rfl) rfl ?_
    refine c_mgo201 (b := 0) (env := env) ht (by omega) (fun i hi => by rw [Nat.zero_add]; exact hT i hi) hE (fun l39 p39 c39 j39 F39 u39 _ => ?_) (fun e39 w39 j39 n39 F39 u39 => ?_)
    · skip
      show ab_X (d + 35) mX12_fault 42 [(0, .ref 200), (1, .int (iI 1))] [] l39 _
      refine ab_aload_n (k := 0) dX12_fault_42 rfl rfl ?_
      refine z_getI dX12_fault_43 fX12_143 rfl (Or.inl rfl) ?_
      refine z_is (y := (-1)) u39 ?_
      refine z_iret dX12_fault_46 rfl ?_
      have q := K _ F39
      rw [j39] at q
      exact q
    · skip
      show ab_X (d + 35) mX12_fault 42 [(0, .ref 200), (1, .int (iI 1))] [] e39 _
      refine ab_aload_n (k := 0) dX12_fault_42 rfl rfl ?_
      refine z_getI dX12_fault_43 fX12_143 rfl (Or.inl rfl) ?_
      refine z_is (y := w39) u39 ?_
      refine z_iret dX12_fault_46 rfl ?_
      have q := K _ F39
      rw [j39] at q
      exact q
  · skip
    exfalso; omega
theorem c_mfault_ {d : Nat} {h : ab_H} {Q : ab_Q} {h9 : ab_H} {s : Int}  (e9 : zp h 200 0 0 = h9) (hs : inR s) (hn : ¬ (s = 0 ∨ s = 1)) (K : Q (some (.int (iI (-2)))) h9) : ab_X (d + 1) mX12_fault 0 (lv_args 0 [.ref 200, .int (iI s)]) [] h Q := by
  show ab_X (d + 1) mX12_fault 0 [(0, .ref 200), (1, .int (iI s))] [] h Q
  refine ab_aload_n (k := 0) dX12_fault_0 rfl rfl ?_
  refine z_iconst dX12_fault_1 ?_
  refine z_putI dX12_fault_2 fX12_111 rfl rfl ?_
  rw [e9]
  refine ab_iload_n (k := 1) dX12_fault_5 rfl rfl ?_
  refine z_i2l dX12_fault_6 (by omega) ?_
  refine z_lconst (v := 0) dX12_fault_7 (by decide) ?_
  refine z_lconst (v := 1) dX12_fault_8 (by decide) ?_
  refine ab_callS (As := [.long (lL s), .long (lL 0), .long (lL 1)]) (rest := []) dX12_fault_9 lX12_232 (Nat.le_of_ble_eq_true rfl) (Nat.le_of_ble_eq_true rfl) rfl ?_
  refine c_isIn (by omega) (by omega) (by omega) (fun gi => ?_) (fun gi => ?_)
  · skip
    show ab_X (d + 1) mX12_fault 12 [(0, .ref 200), (1, .int (iI s))] [.int (iI 1)] h9 _
    refine z_if_ne (tgt := 18) dX12_fault_12 (by decide) (by decide) (fun _ => ?_) (fun c12 => absurd c12 (by decide))
    refine ab_sub (ls' := [(0, .ref 200)]) (ks := [0]) rfl ?_
    exfalso; omega
  · skip
    show ab_X (d + 1) mX12_fault 12 [(0, .ref 200), (1, .int (iI s))] [.int (iI 0)] h9 _
    refine z_if_ne (tgt := 18) dX12_fault_12 (by decide) (by decide) (fun c12 => absurd c12 (by decide)) (fun _ => ?_)
    refine z_bipush dX12_fault_15 (by decide) ?_
    refine z_iret dX12_fault_17 rfl ?_
    exact K
theorem lp_isGated {d : Nat} {Q : ab_Q} {h0 : ab_H} {gs : List (Int × Int)} {y : Nat}  (hG : zv h0 200 26 = (gs.length : Int)) (hG4 : gs.length ≤ 4) (hP : prs (zv h0 209) gs) (hO : ∀ g ∈ gs, (0 ≤ g.1 ∧ g.1 ≤ 19) ∧ (1 ≤ g.2 ∧ g.2 ≤ 9)) (hy : y ≤ 100) (k1 : gtd gs y → Q (some (.int (iI 1))) h0) (k0 : ¬ gtd gs y → Q (some (.int (iI 0))) h0) : ∀ (nn : Nat) (g : Nat) (h : ab_H), gs.length - g = nn → (h = h0) → (g ≤ gs.length) → (∀ i, i < g → ¬ ((gs.getD i (0, 0)).1 ≤ (y : Int) ∧ (y : Int) < (gs.getD i (0, 0)).1 + (gs.getD i (0, 0)).2)) → ab_X (d + 1) mX12_isGated 2 [(0, .ref 200), (1, .int (iI (y : Int))), (2, .int (iI (g : Int)))] [] h Q := by
  intro nn
  induction nn using Nat.strongRecOn with
  | ind nn ih =>
  intro g h hnn hh h2 hI
  subst hh
  refine ab_iload_n (k := 2) dX12_isGated_2 rfl rfl ?_
  refine ab_aload_n (k := 0) dX12_isGated_3 rfl rfl ?_
  refine z_getI dX12_isGated_4 fX12_287 rfl (Or.inl rfl) ?_
  refine z_is (y := ((gs.length : Nat) : Int)) hG ?_
  refine z_icmp_ge (tgt := 57) dX12_isGated_7 (by decide) (by omega) (by omega) (fun c7 => ?_) (fun c7 => ?_)
  · skip
    refine z_iconst dX12_isGated_57 ?_
    refine z_zret dX12_isGated_58 rfl (Or.inl rfl) ?_
    first
    | exact k1 ⟨_, hgm, by omega, by omega⟩
    | (refine k0 (fun q => ?_)
       obtain ⟨q, q1, q2⟩ := q
       obtain ⟨i, hi, e⟩ := List.getElem_of_mem q1
       refine hI i (by omega) ?_
       rw [List.getD_eq_getElem?_getD, List.getElem?_eq_getElem hi, e]
       exact q2)
  · skip
    have hgl : g < gs.length := by omega
    have hgm : gs.getD g (0, 0) ∈ gs := by rw [List.getD_eq_getElem?_getD, List.getElem?_eq_getElem hgl]; exact List.getElem_mem hgl
    have hgb := hO _ hgm
    refine ab_iload_n (k := 1) dX12_isGated_10 rfl rfl ?_
    refine z_i2l dX12_isGated_11 (by omega) ?_
    refine ab_aload_n (k := 0) dX12_isGated_12 rfl rfl ?_
    refine z_getP (b := 209) dX12_isGated_13 fX12_49 rfl rfl rfl ?_
    refine z_iconst dX12_isGated_16 ?_
    refine ab_iload_n (k := 2) dX12_isGated_17 rfl rfl ?_
    refine z_imul dX12_isGated_18 ?_
    refine z_iald dX12_isGated_19 rfl (by omega) (by omega) ?_
    refine z_is (y := (gs.getD g (0, 0)).1) (by rw [show (2 * (g : Int)).toNat = 2 * g by omega]; exact (hP g (by omega)).1) ?_
    refine z_i2l dX12_isGated_20 (by omega) ?_
    refine ab_aload_n (k := 0) dX12_isGated_21 rfl rfl ?_
    refine z_getP (b := 209) dX12_isGated_22 fX12_49 rfl rfl rfl ?_
    refine z_iconst dX12_isGated_25 ?_
    refine ab_iload_n (k := 2) dX12_isGated_26 rfl rfl ?_
    refine z_imul dX12_isGated_27 ?_
    refine z_iald dX12_isGated_28 rfl (by omega) (by omega) ?_
    refine z_is (y := (gs.getD g (0, 0)).1) (by rw [show (2 * (g : Int)).toNat = 2 * g by omega]; exact (hP g (by omega)).1) ?_
    refine ab_aload_n (k := 0) dX12_isGated_29 rfl rfl ?_
    refine z_getP (b := 209) dX12_isGated_30 fX12_49 rfl rfl rfl ?_
    refine z_iconst dX12_isGated_33 ?_
    refine ab_iload_n (k := 2) dX12_isGated_34 rfl rfl ?_
    refine z_imul dX12_isGated_35 ?_
    refine z_iconst dX12_isGated_36 ?_
    refine z_iadd dX12_isGated_37 ?_
    refine z_iald dX12_isGated_38 rfl (by omega) (by omega) ?_
    refine z_is (y := (gs.getD g (0, 0)).2) (by rw [show ((2 * (g : Int)) + 1).toNat = 2 * g + 1 by omega]; exact (hP g (by omega)).2) ?_
    refine z_iadd dX12_isGated_39 ?_
    refine z_iconst dX12_isGated_40 ?_
    refine z_isub dX12_isGated_41 ?_
    refine z_i2l dX12_isGated_42 (by omega) ?_
    refine ab_callS (As := [.long (lL (y : Int)), .long (lL ((gs.getD g (0, 0)).1)), .long (lL ((((gs.getD g (0, 0)).1) + ((gs.getD g (0, 0)).2)) - 1))]) (rest := []) dX12_isGated_43 lX12_232 (Nat.le_of_ble_eq_true rfl) (Nat.le_of_ble_eq_true rfl) rfl ?_
    refine c_isIn (by omega) (by omega) (by omega) (fun gi => ?_) (fun gi => ?_)
    · skip
      show ab_X (d + 1) mX12_isGated 46 [(0, .ref 200), (1, .int (iI (y : Int))), (2, .int (iI (g : Int)))] [.int (iI 1)] h _
      refine z_if_eq (tgt := 51) dX12_isGated_46 (by decide) (by decide) (fun c46 => absurd c46 (by decide)) (fun _ => ?_)
      refine z_iconst dX12_isGated_49 ?_
      refine z_zret dX12_isGated_50 rfl (Or.inr rfl) ?_
      first
      | exact k1 ⟨_, hgm, by omega, by omega⟩
      | (refine k0 (fun q => ?_)
         obtain ⟨q, q1, q2⟩ := q
         obtain ⟨i, hi, e⟩ := List.getElem_of_mem q1
         refine hI i (by omega) ?_
         rw [List.getD_eq_getElem?_getD, List.getElem?_eq_getElem hi, e]
         exact q2)
    · skip
      show ab_X (d + 1) mX12_isGated 46 [(0, .ref 200), (1, .int (iI (y : Int))), (2, .int (iI (g : Int)))] [.int (iI 0)] h _
      refine z_if_eq (tgt := 51) dX12_isGated_46 (by decide) (by decide) (fun _ => ?_) (fun c46 => absurd c46 (by decide))
      refine z_iinc (k := 2) (v := (g : Int) + 1) (ls' := [(2, .int (iI ((g : Int) + 1))), (0, .ref 200), (1, .int (iI (y : Int)))]) dX12_isGated_51 rfl rfl (by decide) rfl ?_
      refine ab_goto (tgt := 2) dX12_isGated_54 (by decide) ?_
      refine ab_sub (ls' := [(0, .ref 200), (1, .int (iI (y : Int))), (2, .int (iI ((g : Int) + 1)))]) (ks := [1, 2, 0]) rfl ?_
      refine ih _ (by omega) (g + 1) h rfl rfl (by omega) (fun i hi => ?_)
      by_cases e : i = g
      · subst e; omega
      · exact hI i (by omega)
theorem c_isGated {d : Nat} {h : ab_H} {Q : ab_Q} {gs : List (Int × Int)} {y : Nat}  (hG : zv h 200 26 = (gs.length : Int)) (hG4 : gs.length ≤ 4) (hP : prs (zv h 209) gs) (hO : ∀ g ∈ gs, (0 ≤ g.1 ∧ g.1 ≤ 19) ∧ (1 ≤ g.2 ∧ g.2 ≤ 9)) (hy : y ≤ 100) (k1 : gtd gs y → Q (some (.int (iI 1))) h) (k0 : ¬ gtd gs y → Q (some (.int (iI 0))) h) : ab_X (d + 1) mX12_isGated 0 (lv_args 0 [.ref 200, .int (iI (y : Int))]) [] h Q := by
  show ab_X (d + 1) mX12_isGated 0 [(0, .ref 200), (1, .int (iI (y : Int)))] [] h Q
  refine z_iconst dX12_isGated_0 ?_
  refine ab_istore_n (ls' := [(2, .int (iI 0)), (0, .ref 200), (1, .int (iI (y : Int)))]) dX12_isGated_1 rfl (by decide) rfl ?_
  refine ab_sub (ls' := [(0, .ref 200), (1, .int (iI (y : Int))), (2, .int (iI 0))]) (ks := [1, 2, 0]) rfl ?_
  exact lp_isGated hG hG4 hP hO hy k1 k0 _ 0 h rfl rfl (by omega) (fun i hi => absurd hi (Nat.not_lt_zero i))
theorem lp_tx1 {d : Nat} {Q : ab_Q} {h0 : ab_H}  (K : ∀ h', sm [205] h0 h' → cpI 205 206 0 0 h0 h' 3 → ab_X (d + 11) mX12_text 156 [(0, .ref 200)] [] h' Q) : ∀ (nn : Nat) (i : Nat) (h : ab_H), 3 - i = nn → (i ≤ 3) → (sm [205] h0 h) → (cpI 205 206 0 0 h0 h i) → ab_X (d + 11) mX12_text 133 [(0, .ref 200), (3, .int (iI (i : Int)))] [] h Q := by
  intro nn
  induction nn using Nat.strongRecOn with
  | ind nn ih =>
  intro i h hnn hi hs hI
  refine ab_iload_n (k := 1) dX12_text_133 rfl rfl ?_
  refine z_iconst dX12_text_134 ?_
  refine z_icmp_ge (tgt := 156) dX12_text_135 (by decide) (by omega) (by decide) (fun c135 => ?_) (fun c135 => ?_)
  · skip
    refine ab_sub (ls' := [(0, .ref 200)]) (ks := [0]) rfl ?_
    have e : i = 3 := by omega
    subst e
    exact K h hs hI
  · skip
    refine ab_aload_n (k := 0) dX12_text_138 rfl rfl ?_
    refine z_getP (b := 205) dX12_text_139 fX12_37 rfl rfl rfl ?_
    refine ab_iload_n (k := 1) dX12_text_142 rfl rfl ?_
    refine ab_aload_n (k := 0) dX12_text_143 rfl rfl ?_
    refine z_getP (b := 206) dX12_text_144 fX12_40 rfl rfl rfl ?_
    refine ab_iload_n (k := 1) dX12_text_147 rfl rfl ?_
    refine z_iald dX12_text_148 rfl (by omega) (by omega) ?_
    simp only [Int.toNat_natCast]
    have b1 := zv_R h 206 i
    refine z_iast dX12_text_149 rfl (by omega) (by omega) ?_
    simp only [Int.toNat_natCast]
    refine z_iinc (k := 1) (v := (i : Int) + 1) (ls' := [(3, .int (iI ((i : Int) + 1))), (0, .ref 200)]) dX12_text_150 rfl rfl (by decide) rfl ?_
    refine ab_goto (tgt := 133) dX12_text_153 (by decide) ?_
    refine ab_sub (ls' := [(0, .ref 200), (3, .int (iI ((i : Int) + 1)))]) (ks := [1, 0]) rfl ?_
    exact ih _ (by omega) (i + 1) _ rfl (by omega) (hs.trans (sm_zp (by decide))) (cpI_step hI (by omega) (by rw [Nat.zero_add]; exact hs.1 206 i (by decide)))
theorem lp_tx2 {d : Nat} {Q : ab_Q} {h0 : ab_H}  (K : ∀ h', sm [207] h0 h' → cpI 207 208 0 0 h0 h' 8 → ab_X (d + 11) mX12_text 182 [(0, .ref 200)] [] h' Q) : ∀ (nn : Nat) (i : Nat) (h : ab_H), 8 - i = nn → (i ≤ 8) → (sm [207] h0 h) → (cpI 207 208 0 0 h0 h i) → ab_X (d + 11) mX12_text 158 [(0, .ref 200), (3, .int (iI (i : Int)))] [] h Q := by
  intro nn
  induction nn using Nat.strongRecOn with
  | ind nn ih =>
  intro i h hnn hi hs hI
  refine ab_iload_n (k := 1) dX12_text_158 rfl rfl ?_
  refine z_bipush dX12_text_159 (by decide) ?_
  refine z_icmp_ge (tgt := 182) dX12_text_161 (by decide) (by omega) (by decide) (fun c161 => ?_) (fun c161 => ?_)
  · skip
    refine ab_sub (ls' := [(0, .ref 200)]) (ks := [0]) rfl ?_
    have e : i = 8 := by omega
    subst e
    exact K h hs hI
  · skip
    refine ab_aload_n (k := 0) dX12_text_164 rfl rfl ?_
    refine z_getP (b := 207) dX12_text_165 fX12_43 rfl rfl rfl ?_
    refine ab_iload_n (k := 1) dX12_text_168 rfl rfl ?_
    refine ab_aload_n (k := 0) dX12_text_169 rfl rfl ?_
    refine z_getP (b := 208) dX12_text_170 fX12_46 rfl rfl rfl ?_
    refine ab_iload_n (k := 1) dX12_text_173 rfl rfl ?_
    refine z_iald dX12_text_174 rfl (by omega) (by omega) ?_
    simp only [Int.toNat_natCast]
    have b1 := zv_R h 208 i
    refine z_iast dX12_text_175 rfl (by omega) (by omega) ?_
    simp only [Int.toNat_natCast]
    refine z_iinc (k := 1) (v := (i : Int) + 1) (ls' := [(3, .int (iI ((i : Int) + 1))), (0, .ref 200)]) dX12_text_176 rfl rfl (by decide) rfl ?_
    refine ab_goto (tgt := 158) dX12_text_179 (by decide) ?_
    refine ab_sub (ls' := [(0, .ref 200), (3, .int (iI ((i : Int) + 1)))]) (ks := [1, 0]) rfl ?_
    exact ih _ (by omega) (i + 1) _ rfl (by omega) (hs.trans (sm_zp (by decide))) (cpI_step hI (by omega) (by rw [Nat.zero_add]; exact hs.1 208 i (by decide)))
theorem lp_tx3 {d : Nat} {Q : ab_Q} {h0 : ab_H}  (K : ∀ h', sm [209] h0 h' → cpI 209 210 0 0 h0 h' 8 → ab_X (d + 11) mX12_text 208 [(0, .ref 200)] [] h' Q) : ∀ (nn : Nat) (i : Nat) (h : ab_H), 8 - i = nn → (i ≤ 8) → (sm [209] h0 h) → (cpI 209 210 0 0 h0 h i) → ab_X (d + 11) mX12_text 184 [(0, .ref 200), (3, .int (iI (i : Int)))] [] h Q := by
  intro nn
  induction nn using Nat.strongRecOn with
  | ind nn ih =>
  intro i h hnn hi hs hI
  refine ab_iload_n (k := 1) dX12_text_184 rfl rfl ?_
  refine z_bipush dX12_text_185 (by decide) ?_
  refine z_icmp_ge (tgt := 208) dX12_text_187 (by decide) (by omega) (by decide) (fun c187 => ?_) (fun c187 => ?_)
  · skip
    refine ab_sub (ls' := [(0, .ref 200)]) (ks := [0]) rfl ?_
    have e : i = 8 := by omega
    subst e
    exact K h hs hI
  · skip
    refine ab_aload_n (k := 0) dX12_text_190 rfl rfl ?_
    refine z_getP (b := 209) dX12_text_191 fX12_49 rfl rfl rfl ?_
    refine ab_iload_n (k := 1) dX12_text_194 rfl rfl ?_
    refine ab_aload_n (k := 0) dX12_text_195 rfl rfl ?_
    refine z_getP (b := 210) dX12_text_196 fX12_52 rfl rfl rfl ?_
    refine ab_iload_n (k := 1) dX12_text_199 rfl rfl ?_
    refine z_iald dX12_text_200 rfl (by omega) (by omega) ?_
    simp only [Int.toNat_natCast]
    have b1 := zv_R h 210 i
    refine z_iast dX12_text_201 rfl (by omega) (by omega) ?_
    simp only [Int.toNat_natCast]
    refine z_iinc (k := 1) (v := (i : Int) + 1) (ls' := [(3, .int (iI ((i : Int) + 1))), (0, .ref 200)]) dX12_text_202 rfl rfl (by decide) rfl ?_
    refine ab_goto (tgt := 184) dX12_text_205 (by decide) ?_
    refine ab_sub (ls' := [(0, .ref 200), (3, .int (iI ((i : Int) + 1)))]) (ks := [1, 0]) rfl ?_
    exact ih _ (by omega) (i + 1) _ rfl (by omega) (hs.trans (sm_zp (by decide))) (cpI_step hI (by omega) (by rw [Nat.zero_add]; exact hs.1 210 i (by decide)))
def rwI (gs : List (Int × Int)) (h : ab_H) (i : Nat) : Prop := ∀ y, y < i → (gtd gs y → zv h 211 y = -2) ∧ (¬ gtd gs y → zv h 211 y = -1) ∧ zv h 212 y = -1
theorem rwI_s {gs : List (Int × Int)} {h : ab_H} {i : Nat} {x : Int} (hI : rwI gs h i) (hx : inR x) (h1 : gtd gs i → x = -2) (h2 : ¬ gtd gs i → x = -1) : rwI gs (zp (zp h 211 i x) 212 i (-1)) (i + 1) := fun y hy => by
  rw [zv_zp_a (by decide)]
  by_cases e : y = i
  · subst e; rw [zv_zp_s hx, zv_zp_s (by decide)]; exact ⟨h1, h2, rfl⟩
  · rw [zv_zp_ne (by omega), zv_zp_ne (by omega), zv_zp_a (by decide)]; exact hI y (by omega)
theorem lp_tx4 {d : Nat} {Q : ab_Q} {h0 : ab_H} {gs : List (Int × Int)}  (hG : zv h0 200 26 = (gs.length : Int)) (hG4 : gs.length ≤ 4) (hP : prs (zv h0 209) gs) (hO : ∀ g ∈ gs, (0 ≤ g.1 ∧ g.1 ≤ 19) ∧ (1 ≤ g.2 ∧ g.2 ≤ 9)) (K : ∀ h', sm [211, 212] h0 h' → rwI gs h' 20 → ab_X (d + 11) mX12_text 259 [(0, .ref 200)] [] h' Q) : ∀ (nn : Nat) (i : Nat) (h : ab_H), 20 - i = nn → (i ≤ 20) → (sm [211, 212] h0 h) → (rwI gs h i) → ab_X (d + 11) mX12_text 220 [(0, .ref 200), (3, .int (iI (i : Int)))] [] h Q := by
  intro nn
  induction nn using Nat.strongRecOn with
  | ind nn ih =>
  intro i h hnn hi hs hI
  refine ab_iload_n (k := 1) dX12_text_220 rfl rfl ?_
  refine z_bipush dX12_text_221 (by decide) ?_
  refine z_icmp_ge (tgt := 259) dX12_text_223 (by decide) (by omega) (by decide) (fun c223 => ?_) (fun c223 => ?_)
  · skip
    refine ab_sub (ls' := [(0, .ref 200)]) (ks := [0]) rfl ?_
    have e : i = 20 := by omega
    subst e
    exact K h hs hI
  · skip
    refine ab_aload_n (k := 0) dX12_text_226 rfl rfl ?_
    refine z_getP (b := 211) dX12_text_227 fX12_55 rfl rfl rfl ?_
    refine ab_iload_n (k := 1) dX12_text_230 rfl rfl ?_
    refine ab_aload_n (k := 0) dX12_text_231 rfl rfl ?_
    refine ab_iload_n (k := 1) dX12_text_232 rfl rfl ?_
    refine ab_callV (As := [.int (iI (i : Int))]) (rest := [.int (iI (i : Int)), .ref 211]) dX12_text_233 lX12_293 rfl (Nat.le_of_ble_eq_true rfl) (Nat.le_of_ble_eq_true rfl) rfl ?_
    refine c_isGated (gs := gs) ((hs.1 200 26 (by decide)).trans hG) hG4 (fun j hj => by rw [hs.1 209 _ (by decide), hs.1 209 _ (by decide)]; exact hP j hj) hO (by omega) (fun gg => ?_) (fun gg => ?_)
    · skip
      show ab_X (d + 11) mX12_text 236 [(0, .ref 200), (3, .int (iI (i : Int)))] [.int (iI 1), .int (iI (i : Int)), .ref 211] h _
      refine z_if_eq (tgt := 244) dX12_text_236 (by decide) (by decide) (fun c236 => absurd c236 (by decide)) (fun _ => ?_)
      refine z_bipush dX12_text_239 (by decide) ?_
      refine ab_goto (tgt := 245) dX12_text_241 (by decide) ?_
      refine z_iast dX12_text_245 rfl (by omega) (by omega) ?_
      simp only [Int.toNat_natCast]
      refine ab_aload_n (k := 0) dX12_text_246 rfl rfl ?_
      refine z_getP (b := 212) dX12_text_247 fX12_58 rfl rfl rfl ?_
      refine ab_iload_n (k := 1) dX12_text_250 rfl rfl ?_
      refine z_iconst dX12_text_251 ?_
      refine z_iast dX12_text_252 rfl (by omega) (by omega) ?_
      simp only [Int.toNat_natCast]
      refine z_iinc (k := 1) (v := (i : Int) + 1) (ls' := [(3, .int (iI ((i : Int) + 1))), (0, .ref 200)]) dX12_text_253 rfl rfl (by decide) rfl ?_
      refine ab_goto (tgt := 220) dX12_text_256 (by decide) ?_
      refine ab_sub (ls' := [(0, .ref 200), (3, .int (iI ((i : Int) + 1)))]) (ks := [1, 0]) rfl ?_
      first
      | exact ih _ (by omega) (i + 1) _ rfl (by omega) ((hs.trans (sm_zp (by decide))).trans (sm_zp (by decide))) (rwI_s hI (by decide) (fun _ => rfl) (fun q => absurd gg q))
      | exact ih _ (by omega) (i + 1) _ rfl (by omega) ((hs.trans (sm_zp (by decide))).trans (sm_zp (by decide))) (rwI_s hI (by decide) (fun q => absurd q gg) (fun _ => rfl))
    · skip
      show ab_X (d + 11) mX12_text 236 [(0, .ref 200), (3, .int (iI (i : Int)))] [.int (iI 0), .int (iI (i : Int)), .ref 211] h _
      refine z_if_eq (tgt := 244) dX12_text_236 (by decide) (by decide) (fun _ => ?_) (fun c236 => absurd c236 (by decide))
      refine z_iconst dX12_text_244 ?_
      refine z_iast dX12_text_245 rfl (by omega) (by omega) ?_
      simp only [Int.toNat_natCast]
      refine ab_aload_n (k := 0) dX12_text_246 rfl rfl ?_
      refine z_getP (b := 212) dX12_text_247 fX12_58 rfl rfl rfl ?_
      refine ab_iload_n (k := 1) dX12_text_250 rfl rfl ?_
      refine z_iconst dX12_text_251 ?_
      refine z_iast dX12_text_252 rfl (by omega) (by omega) ?_
      simp only [Int.toNat_natCast]
      refine z_iinc (k := 1) (v := (i : Int) + 1) (ls' := [(3, .int (iI ((i : Int) + 1))), (0, .ref 200)]) dX12_text_253 rfl rfl (by decide) rfl ?_
      refine ab_goto (tgt := 220) dX12_text_256 (by decide) ?_
      refine ab_sub (ls' := [(0, .ref 200), (3, .int (iI ((i : Int) + 1)))]) (ks := [1, 0]) rfl ?_
      first
      | exact ih _ (by omega) (i + 1) _ rfl (by omega) ((hs.trans (sm_zp (by decide))).trans (sm_zp (by decide))) (rwI_s hI (by decide) (fun _ => rfl) (fun q => absurd gg q))
      | exact ih _ (by omega) (i + 1) _ rfl (by omega) ((hs.trans (sm_zp (by decide))).trans (sm_zp (by decide))) (rwI_s hI (by decide) (fun q => absurd q gg) (fun _ => rfl))
theorem lp_tx5 {d : Nat} {Q : ab_Q} {h0 : ab_H}  (K : ∀ h', sm [213] h0 h' → (∀ k, k < 3 → zv h' 213 k = 0) → ab_X (d + 11) mX12_text 289 [(0, .ref 200)] [] h' Q) : ∀ (nn : Nat) (i : Nat) (h : ab_H), 3 - i = nn → (i ≤ 3) → (sm [213] h0 h) → (∀ k, k < i → zv h 213 k = 0) → ab_X (d + 11) mX12_text 271 [(0, .ref 200), (3, .int (iI (i : Int)))] [] h Q := by
  intro nn
  induction nn using Nat.strongRecOn with
  | ind nn ih =>
  intro i h hnn hi hs hI
  refine ab_iload_n (k := 1) dX12_text_271 rfl rfl ?_
  refine z_iconst dX12_text_272 ?_
  refine z_icmp_ge (tgt := 289) dX12_text_273 (by decide) (by omega) (by decide) (fun c273 => ?_) (fun c273 => ?_)
  · skip
    refine ab_sub (ls' := [(0, .ref 200)]) (ks := [0]) rfl ?_
    have e : i = 3 := by omega
    subst e
    exact K h hs hI
  · skip
    refine ab_aload_n (k := 0) dX12_text_276 rfl rfl ?_
    refine z_getP (b := 213) dX12_text_277 fX12_61 rfl rfl rfl ?_
    refine ab_iload_n (k := 1) dX12_text_280 rfl rfl ?_
    refine z_iconst dX12_text_281 ?_
    refine z_iast dX12_text_282 rfl (by omega) (by omega) ?_
    simp only [Int.toNat_natCast]
    refine z_iinc (k := 1) (v := (i : Int) + 1) (ls' := [(3, .int (iI ((i : Int) + 1))), (0, .ref 200)]) dX12_text_283 rfl rfl (by decide) rfl ?_
    refine ab_goto (tgt := 271) dX12_text_286 (by decide) ?_
    refine ab_sub (ls' := [(0, .ref 200), (3, .int (iI ((i : Int) + 1)))]) (ks := [1, 0]) rfl ?_
    refine ih _ (by omega) (i + 1) _ rfl (by omega) (hs.trans (sm_zp (by decide))) (fun k hk => ?_)
    by_cases e : k = i
    · subst e; rw [zv_zp_s (by decide)]
    · rw [zv_zp_ne (by omega)]; exact hI k (by omega)
/-- the model's kerb begun out of what was read at h -/
def tK (h h' : ab_H) (S : kS) : Prop := (∀ a j, a ≠ 200 → a ≠ 205 → a ≠ 207 → a ≠ 209 → a ≠ 211 → a ≠ 212 → a ≠ 213 → zv h' a j = zv h a j) ∧ (∀ j, j ≠ 6 → j ≠ 24 → j ≠ 26 → j ≠ 32 → j ≠ 33 → j ≠ 37 → j ≠ 54 → zv h' 200 j = zv h 200 j) ∧ zv h' 200 6 = 0 ∧ zv h' 200 24 = (S.2.2.1.length : Int) ∧ zv h' 200 32 = S.2.1.1 ∧ zv h' 200 33 = -1 ∧ zv h' 200 37 = 0 ∧ zv h' 200 54 = 0 ∧ (∀ i, i < 3 → zv h' 205 i = g3 S.2.1 i) ∧ prs (zv h' 207) S.2.2.1 ∧ rwI S.2.2.2 h' 20 ∧ ∀ k, k < 3 → zv h' 213 k = 0
theorem c_mtext0b {d : Nat} {h : ab_H} {Q : ab_Q} {S : kS} {z : Int}  (C : KMc h S) (k : kOK S) (K : ∀ h', tK h h' S → Q (some (.int (iI ((S.2.2.1.length : Nat) : Int)))) h') : ab_X (d + 11) mX12_text 39 [(0, .ref 200), (1, .int (iI 0))] [] h Q := by
  have hl4 := k.2.2.2
  refine ab_aload_n (k := 0) dX12_text_39 rfl rfl ?_
  refine z_getI dX12_text_40 fX12_124 rfl (Or.inl rfl) ?_
  have b1 := zv_R h 200 6
  refine ab_istore_n (ls' := [(2, .int (iI (zv h 200 6))), (0, .ref 200), (1, .int (iI 0))]) dX12_text_43 rfl (by decide) rfl ?_
  refine ab_aload_n (k := 1) dX12_text_44 rfl rfl ?_
  refine z_iconst dX12_text_45 ?_
  refine z_putI dX12_text_46 fX12_124 rfl rfl ?_
  refine ab_iload_n (k := 2) dX12_text_49 rfl rfl ?_
  refine z_iconst dX12_text_50 ?_
  refine z_icmp_ne (tgt := 115) dX12_text_51 (by decide) (by decide) (by decide) (fun _ => ?_) (fun c51 => absurd c51 (by decide))
  refine ab_aload_n (k := 1) dX12_text_115 rfl rfl ?_
  refine ab_aload_n (k := 1) dX12_text_116 rfl rfl ?_
  refine z_getI dX12_text_117 fX12_239 rfl (Or.inl rfl) ?_
  refine z_is (y := zv h 200 25) (zv_zp_ne (by decide)) ?_
  refine z_is (y := ((S.2.2.1.length : Nat) : Int)) C.2.1 ?_
  refine z_putI dX12_text_120 fX12_284 rfl rfl ?_
  refine ab_aload_n (k := 1) dX12_text_123 rfl rfl ?_
  refine ab_aload_n (k := 1) dX12_text_124 rfl rfl ?_
  refine z_getI dX12_text_125 fX12_242 rfl (Or.inl rfl) ?_
  refine z_is (y := zv h 200 27) ((zv_zp_ne (by decide)).trans (zv_zp_ne (by decide))) ?_
  refine z_is (y := ((S.2.2.2.length : Nat) : Int)) C.2.2.2.2.1 ?_
  refine z_putI dX12_text_128 fX12_287 rfl rfl ?_
  refine z_iconst dX12_text_131 ?_
  refine ab_istore_n (ls' := [(3, .int (iI 0)), (2, .int (iI (zv h 200 6))), (0, .ref 200), (1, .int (iI 0))]) dX12_text_132 rfl (by decide) rfl ?_
  refine ab_sub (ls' := [(0, .ref 200), (3, .int (iI 0))]) (ks := [2, 0]) rfl ?_
  obtain ⟨a0, ea0⟩ : ∃ x : ab_H, x = zp (zp (zp h 200 6 0) 200 24 ((S.2.2.1.length : Nat) : Int)) 200 26 ((S.2.2.2.length : Nat) : Int) := ⟨_, rfl⟩
  rw [← ea0]
  have f0 : ∀ a j, a ≠ 200 → zv a0 a j = zv h a j := fun a j ha => by rw [ea0, zv_zp_a ha, zv_zp_a ha, zv_zp_a ha]
  have k4 := k.2.2.2
  refine lp_tx1 (fun h1 s1 c1 => ?_) _ 0 a0 rfl (by omega) sm.refl (cpI_0 _ _ _ _ _)
  refine z_iconst dX12_text_156 ?_
  refine ab_istore_n (ls' := [(3, .int (iI 0)), (0, .ref 200)]) dX12_text_157 rfl (by decide) rfl ?_
  refine ab_sub (ls' := [(0, .ref 200), (3, .int (iI 0))]) (ks := [1, 0]) rfl ?_
  refine lp_tx2 (fun h2 s2 c2 => ?_) _ 0 h1 rfl (by omega) sm.refl (cpI_0 _ _ _ _ _)
  refine z_iconst dX12_text_182 ?_
  refine ab_istore_n (ls' := [(3, .int (iI 0)), (0, .ref 200)]) dX12_text_183 rfl (by decide) rfl ?_
  refine ab_sub (ls' := [(0, .ref 200), (3, .int (iI 0))]) (ks := [1, 0]) rfl ?_
  refine lp_tx3 (fun h3 s3 c3 => ?_) _ 0 h2 rfl (by omega) sm.refl (cpI_0 _ _ _ _ _)
  have h205 : ∀ i, i < 3 → zv h1 205 i = g3 S.2.1 i := fun i hi => by rw [c1 i, if_pos (by omega), Nat.zero_add, Nat.sub_zero, f0 206 i (by decide)]; exact C.1 i hi
  have e205 : zv h3 205 0 = S.2.1.1 := by rw [s3.1 205 0 (by decide), s2.1 205 0 (by decide)]; exact h205 0 (by decide)
  have hyR : inR S.2.1.1 := by rw [← e205]; exact zv_R _ _ _
  refine ab_aload_n (k := 0) dX12_text_208 rfl rfl ?_
  refine ab_aload_n (k := 0) dX12_text_209 rfl rfl ?_
  refine z_getP (b := 205) dX12_text_210 fX12_37 rfl rfl rfl ?_
  refine z_iconst dX12_text_213 ?_
  refine z_iald dX12_text_214 rfl (by omega) (by omega) ?_
  show ab_X _ _ _ _ (.int (iI (zv h3 205 0)) :: _) _ _
  refine z_is (y := S.2.1.1) e205 ?_
  refine z_putI dX12_text_215 fX12_290 rfl rfl ?_
  refine z_iconst dX12_text_218 ?_
  refine ab_istore_n (ls' := [(3, .int (iI 0)), (0, .ref 200)]) dX12_text_219 rfl (by decide) rfl ?_
  refine ab_sub (ls' := [(0, .ref 200), (3, .int (iI 0))]) (ks := [1, 0]) rfl ?_
  obtain ⟨a3, ea3⟩ : ∃ x : ab_H, x = zp h3 200 32 S.2.1.1 := ⟨_, rfl⟩
  rw [← ea3]
  have g3h : ∀ j, j < 8 → zv a3 209 j = zv h 210 j := fun j hj => by rw [ea3, zv_zp_a (by decide), c3 j, if_pos (by omega), Nat.zero_add, Nat.sub_zero, s2.1 210 j (by decide), s1.1 210 j (by decide), f0 210 j (by decide)]
  refine lp_tx4 (gs := S.2.2.2) ?_ k4.2 (fun j hj => by rw [g3h _ (by omega), g3h _ (by omega)]; exact C.2.2.2.2.2.1 j hj) k.2.2.1 (fun h4 s4 r4 => ?_) _ 0 a3 rfl (by omega) sm.refl (fun y hy => absurd hy (Nat.not_lt_zero y))
  · rw [ea3, zv_zp_ne (by decide), s3.1 200 26 (by decide), s2.1 200 26 (by decide), s1.1 200 26 (by decide), ea0, zv_zp_s (by omega)]
  refine ab_aload_n (k := 0) dX12_text_259 rfl rfl ?_
  refine z_iconst dX12_text_260 ?_
  refine z_putI dX12_text_261 fX12_64 rfl rfl ?_
  refine ab_aload_n (k := 0) dX12_text_264 rfl rfl ?_
  refine z_iconst dX12_text_265 ?_
  refine z_putI dX12_text_266 fX12_296 rfl rfl ?_
  refine z_iconst dX12_text_269 ?_
  refine ab_istore_n (ls' := [(3, .int (iI 0)), (0, .ref 200)]) dX12_text_270 rfl (by decide) rfl ?_
  refine ab_sub (ls' := [(0, .ref 200), (3, .int (iI 0))]) (ks := [1, 0]) rfl ?_
  obtain ⟨a4, ea4⟩ : ∃ x : ab_H, x = zp (zp h4 200 33 (-1)) 200 37 0 := ⟨_, rfl⟩
  rw [← ea4]
  have o5a : ∀ j, j ≠ 32 → j ≠ 33 → j ≠ 37 → zv a4 200 j = zv a0 200 j := fun j q1 q2 q3 => by rw [ea4, zv_zp_ne (by omega), zv_zp_ne (by omega), s4.1 200 j (by decide), ea3, zv_zp_ne (by omega), s3.1 200 j (by decide), s2.1 200 j (by decide), s1.1 200 j (by decide)]
  refine lp_tx5 (fun h5 s5 t5 => ?_) _ 0 a4 rfl (by omega) sm.refl (fun m hm => absurd hm (Nat.not_lt_zero m))
  have o5 : ∀ j, j ≠ 32 → j ≠ 33 → j ≠ 37 → zv h5 200 j = zv a0 200 j := fun j q1 q2 q3 => (s5.1 200 j (by decide)).trans (o5a j q1 q2 q3)
  refine ab_aload_n (k := 0) dX12_text_289 rfl rfl ?_
  refine z_iconst dX12_text_290 ?_
  refine z_putZ dX12_text_291 fX12_299 rfl rfl (Or.inl rfl) ?_
  refine ab_aload_n (k := 0) dX12_text_294 rfl rfl ?_
  refine z_getI dX12_text_295 fX12_284 rfl (Or.inl rfl) ?_
  refine z_is (y := zv h5 200 24) (zv_zp_ne (by decide)) ?_
  refine z_is (y := ((S.2.2.1.length : Nat) : Int)) ((o5 24 (by decide) (by decide) (by decide)).trans (by rw [ea0, zv_zp_ne (by decide), zv_zp_s (by omega)])) ?_
  refine z_iret dX12_text_298 rfl ?_
  refine K _ ⟨fun a j q1 q2 q3 q4 q5 q6 q7 => ?_, fun j q1 q2 q3 q4 q5 q6 q7 => ?_, ?_, ?_, ?_, ?_, ?_, zv_zp_s (by decide), fun i hi => ?_, fun i hi => ?_, fun y hy => ?_, fun m hm => ?_⟩
  · rw [zv_zp_a q1, s5.1 a j (by simp only [List.mem_cons, List.not_mem_nil, or_false]; omega), ea4, zv_zp_a q1, zv_zp_a q1, s4.1 a j (by simp only [List.mem_cons, List.not_mem_nil, or_false]; omega), ea3, zv_zp_a q1, s3.1 a j (by simp only [List.mem_cons, List.not_mem_nil, or_false]; omega), s2.1 a j (by simp only [List.mem_cons, List.not_mem_nil, or_false]; omega), s1.1 a j (by simp only [List.mem_cons, List.not_mem_nil, or_false]; omega), f0 a j q1]
  · rw [zv_zp_ne (by omega), o5 j (by omega) (by omega) (by omega), ea0, zv_zp_ne (by omega), zv_zp_ne (by omega), zv_zp_ne (by omega)]
  · rw [zv_zp_ne (by decide), o5 6 (by decide) (by decide) (by decide), ea0, zv_zp_ne (by decide), zv_zp_ne (by decide), zv_zp_s (by decide)]
  · rw [zv_zp_ne (by decide), o5 24 (by decide) (by decide) (by decide), ea0, zv_zp_ne (by decide), zv_zp_s (by omega)]
  · rw [zv_zp_ne (by decide), s5.1 200 32 (by decide), ea4, zv_zp_ne (by decide), zv_zp_ne (by decide), s4.1 200 32 (by decide), ea3, zv_zp_s hyR]
  · rw [zv_zp_ne (by decide), s5.1 200 33 (by decide), ea4, zv_zp_ne (by decide), zv_zp_s (by decide)]
  · rw [zv_zp_ne (by decide), s5.1 200 37 (by decide), ea4, zv_zp_s (by decide)]
  · rw [zv_zp_a (by decide), s5.1 205 i (by decide), ea4, zv_zp_a (by decide), zv_zp_a (by decide), s4.1 205 i (by decide), ea3, zv_zp_a (by decide), s3.1 205 i (by decide), s2.1 205 i (by decide)]
    exact h205 i hi
  · have e7 : ∀ j, j < 8 → zv (zp h5 200 54 0) 207 j = zv h 208 j := fun j hj => by
      rw [zv_zp_a (by decide), s5.1 207 j (by decide), ea4, zv_zp_a (by decide), zv_zp_a (by decide), s4.1 207 j (by decide), ea3, zv_zp_a (by decide), s3.1 207 j (by decide), c2 j, if_pos (by omega), Nat.zero_add, Nat.sub_zero, s1.1 208 j (by decide), f0 208 j (by decide)]
    rw [e7 _ (by omega), e7 _ (by omega)]; exact C.2.2.1 i hi
  · rw [zv_zp_a (by decide), zv_zp_a (by decide), s5.1 211 y (by decide), s5.1 212 y (by decide), ea4, zv_zp_a (by decide), zv_zp_a (by decide), zv_zp_a (by decide), zv_zp_a (by decide)]
    exact r4 y hy
  · rw [zv_zp_a (by decide)]; exact t5 m hm
