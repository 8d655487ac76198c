/-! THE CLASS READS A RULE: clauses, the whole rule -/
theorem d_readUnit {z d D : Nat} {g : Int} (hg : g = 0 ∨ g = 1) (hz : z ≤ 160) : rdD z mX8_readUnit [.ref 10, .int (iI (D : Int)), .int (iI g)] (d + 11) := fun h0 h Q w S K => by
  rcases hg with rfl | rfl
  · exact c_readUnitD0 hz S K
  · exact c_readUnitD1 hz S K
theorem d_readTruth {z d D : Nat} {g : Int} (hg : g = 0 ∨ g = 1) (hz : z ≤ 160) : rdD z mX8_readTruth [.ref 10, .int (iI (D : Int)), .int (iI g)] (d + 12) := fun h0 h Q w S K => c_readTruthD (by omega) (d_readUnit hg hz) hz S K
theorem d_readCondition {z d D : Nat} {g : Int} (hg : g = 0 ∨ g = 1) (hz : z ≤ 160) : rdD z mX8_readCondition [.ref 10, .int (iI (D : Int)), .int (iI g)] (d + 13) := fun h0 h Q w S K => c_readConditionD (by omega) (d_readTruth hg hz) hz S K
def lvU (T : Nat → Int) (z D d : Nat) (U : Bool → Nat → pR) : Prop := rdC T z mX8_readUnit [.ref 10, .int (iI (D : Int)), .int (iI 0)] (U false) (d + 11) ∧ rdC T z mX8_readUnit [.ref 10, .int (iI (D : Int)), .int (iI 1)] (U true) (d + 11) ∧ rdC T z mX8_readCondition [.ref 10, .int (iI (D : Int)), .int (iI 0)] (condF T z U false) (d + 13) ∧ rdC T z mX8_readCondition [.ref 10, .int (iI (D : Int)), .int (iI 1)] (condF T z U true) (d + 13)
theorem l_unit1 {T : Nat → Int} {z d D : Nat} {sub : Option ((Bool → Nat → pR) × (Bool → Nat → pR))} {S : Nat → pR} (ht : tx T z) (hD : D ≤ 6) (hS : rdC T z mX8_readSum [.ref 10, .int (iI (D : Int))] S (d + 10)) (hu1 : D < 6 → ∃ U C, sub = some (U, C) ∧ rdC T z mX8_readUnit [.ref 10, .int (iI ((D : Int) + 1)), .int (iI 0)] (U false) (d + 10) ∧ rdC T z mX8_readCondition [.ref 10, .int (iI ((D : Int) + 1)), .int (iI 0)] (C false) (d + 10)) (hu0 : D = 6 → sub = none) : lvU T z D d (unitF T z sub S) := by
  have h0 : rdC T z mX8_readUnit [.ref 10, .int (iI (D : Int)), .int (iI 0)] (unitF T z sub S false) (d + 11) := fun h0 h Q p c X K1 K0 => c_readUnit0 ht hD hS hu1 hu0 X K1 K0
  have h1 : rdC T z mX8_readUnit [.ref 10, .int (iI (D : Int)), .int (iI 1)] (unitF T z sub S true) (d + 11) := fun h0 h Q p c X K1 K0 => c_readUnit1 ht hD hS X K1 K0
  have t0 : rdC T z mX8_readTruth [.ref 10, .int (iI (D : Int)), .int (iI 0)] (truthF T z (unitF T z sub S) false) (d + 12) := fun _ h Q p c X K1 K0 => c_readTruth0 (by decide) ht hD h0 (d_readUnit (Or.inl rfl) ht.1) h0 (d_readUnit (Or.inl rfl) ht.1) X K1 K0
  have t1 : rdC T z mX8_readTruth [.ref 10, .int (iI (D : Int)), .int (iI 1)] (truthF T z (unitF T z sub S) true) (d + 12) := fun _ h Q p c X K1 K0 => c_readTruth0 (by decide) ht hD h1 (d_readUnit (Or.inr rfl) ht.1) h0 (d_readUnit (Or.inl rfl) ht.1) X K1 K0
  refine ⟨h0, h1, fun _ h Q p c X K1 K0 => ?_, fun _ h Q p c X K1 K0 => ?_⟩
  · exact c_readCondition0 (by decide) ht hD t0 (d_readTruth (Or.inl rfl) ht.1) t0 (d_readTruth (Or.inl rfl) ht.1) X K1 K0
  · exact c_readCondition0 (by decide) ht hD t1 (d_readTruth (Or.inr rfl) ht.1) t0 (d_readTruth (Or.inl rfl) ht.1) X K1 K0
theorem l_unit {T : Nat → Int} {z : Nat} (ht : tx T z) : ∀ (r e D : Nat), D + r = 6 → lvU T z D (e + 3 * r) (pUn T z r)
  | 0, e, D, h => l_unit1 ht (by omega) (l_readSum ht 0 e D h) (fun q => absurd q (by omega)) (fun _ => rfl)
  | r + 1, e, D, h => by
    have i1 := (l_unit ht r (e + 2) (D + 1) (by omega)).1
    have i2 := (l_unit ht r e (D + 1) (by omega)).2.2.1
    have hs := l_readSum ht (r + 1) e D h
    rw [show e + 2 + 3 * r + 11 = (e + 3 * (r + 1)) + 10 by omega] at i1
    rw [show e + 3 * r + 13 = (e + 3 * (r + 1)) + 10 by omega] at i2
    exact l_unit1 ht (by omega) hs (fun _ => ⟨_, _, rfl, i1, i2⟩) (fun q => absurd q (by omega))
theorem c_setDet {d : Nat} {h : ab_H} {Q : ab_Q} {u : Nat} {c dd : List (Int × Int)} {x v v0 : Int} (C : CCr 11 h (c ++ (x, v0) :: dd)) (hu : u = c.length) (hl : (c ++ (x, v0) :: dd).length ≤ 160) (hv : inR v) (K : ∀ h', sm [11, 12, 13] h h' → CCr 11 h' (c ++ (x, v) :: dd) → Q none h') : ab_X d mX7_setDetail 0 (lv_args 0 [.ref 11, .int (iI (u : Int)), .int (iI v)]) [] h Q := by
  show ab_X d mX7_setDetail 0 [(0, .ref 11), (1, .int (iI (u : Int))), (2, .int (iI v))] [] h Q
  have hl2 : u < (c ++ (x, v0) :: dd).length := by rw [List.length_append, List.length_cons]; omega
  refine ab_iload_n (k := 1) dX7_setDetail_0 rfl rfl ?_
  refine z_if_lt (tgt := 19) dX7_setDetail_1 (by decide) (by omega) (fun c1 => ?_) (fun c1 => ?_)
  · skip
    refine z_vret dX7_setDetail_19 rfl ?_
    first | exact K _ (sm_zp (by decide)) (CCr_set C hu hv) | (exfalso; omega)
  · skip
    refine ab_iload_n (k := 1) dX7_setDetail_4 rfl rfl ?_
    refine ab_aload_n (k := 0) dX7_setDetail_5 rfl rfl ?_
    refine z_getI dX7_setDetail_6 fX7_21 rfl (Or.inl rfl) ?_
    refine z_is (y := (((c ++ (x, v0) :: dd).length : Nat) : Int)) C.1 ?_
    refine z_icmp_ge (tgt := 19) dX7_setDetail_9 (by decide) (by omega) (by omega) (fun c9 => ?_) (fun c9 => ?_)
    · skip
      refine z_vret dX7_setDetail_19 rfl ?_
      first | exact K _ (sm_zp (by decide)) (CCr_set C hu hv) | (exfalso; omega)
    · skip
      refine ab_aload_n (k := 0) dX7_setDetail_12 rfl rfl ?_
      refine z_getP (b := 13) dX7_setDetail_13 fX7_15 rfl rfl rfl ?_
      refine ab_iload_n (k := 1) dX7_setDetail_16 rfl rfl ?_
      refine ab_iload_n (k := 2) dX7_setDetail_17 rfl rfl ?_
      refine z_iast dX7_setDetail_18 rfl (by omega) (by omega) ?_
      simp only [Int.toNat_natCast]
      refine z_vret dX7_setDetail_19 rfl ?_
      first | exact K _ (sm_zp (by decide)) (CCr_set C hu hv) | (exfalso; omega)
theorem c_setDetD {d : Nat} {h : ab_H} {Q : ab_Q} {u v : Int} (hu : inR u) (C : 0 ≤ zv h 11 3 ∧ zv h 11 3 ≤ 160) (K : ∀ h', sm [11, 12, 13] h h' → 0 ≤ zv h' 11 3 ∧ zv h' 11 3 ≤ 160 → Q none h') : ab_X d mX7_setDetail 0 (lv_args 0 [.ref 11, .int (iI u), .int (iI v)]) [] h Q := by
  show ab_X d mX7_setDetail 0 [(0, .ref 11), (1, .int (iI u)), (2, .int (iI v))] [] h Q
  refine ab_iload_n (k := 1) dX7_setDetail_0 rfl rfl ?_
  refine z_if_lt (tgt := 19) dX7_setDetail_1 (by decide) (by omega) (fun c1 => ?_) (fun c1 => ?_)
  · skip
    refine z_vret dX7_setDetail_19 rfl ?_
    first | exact K _ (sm_zp (by decide)) (by rw [zv_zp_a (by decide)]; exact C) | exact K _ sm.refl C
  · skip
    refine ab_iload_n (k := 1) dX7_setDetail_4 rfl rfl ?_
    refine ab_aload_n (k := 0) dX7_setDetail_5 rfl rfl ?_
    refine z_getI dX7_setDetail_6 fX7_21 rfl (Or.inl rfl) ?_
    have b1 := zv_R h 11 3
    refine z_icmp_ge (tgt := 19) dX7_setDetail_9 (by decide) (by omega) (by omega) (fun c9 => ?_) (fun c9 => ?_)
    · skip
      refine z_vret dX7_setDetail_19 rfl ?_
      first | exact K _ (sm_zp (by decide)) (by rw [zv_zp_a (by decide)]; exact C) | exact K _ sm.refl C
    · skip
      refine ab_aload_n (k := 0) dX7_setDetail_12 rfl rfl ?_
      refine z_getP (b := 13) dX7_setDetail_13 fX7_15 rfl rfl rfl ?_
      refine ab_iload_n (k := 1) dX7_setDetail_16 rfl rfl ?_
      refine ab_iload_n (k := 2) dX7_setDetail_17 rfl rfl ?_
      refine z_iast dX7_setDetail_18 rfl (by omega) (by omega) ?_
      refine z_vret dX7_setDetail_19 rfl ?_
      first | exact K _ (sm_zp (by decide)) (by rw [zv_zp_a (by decide)]; exact C) | exact K _ sm.refl C
theorem CL_set {T : Nat → Int} {z : Nat} {h0 h h' : ab_H} {p : Nat} {c c' : List (Int × Int)} (S : CL T z h0 h p c) (hp : c'.length = c.length) (s : sm [11, 12, 13] h h') (C : CCr 11 h' c') : CL T z h0 h' p c' := ⟨S.1.trans (sm3 s), TL_sm S.2.1 s (by decide) (by decide), by rw [hp]; exact S.2.2.1, C⟩
theorem c_rclause0 {d : Nat} {h : ab_H} {Q : ab_Q} {T : Nat → Int} {z : Nat} {h0 : ab_H} {p : Nat} {c : List (Int × Int)} (ht : tx T z) (hS : rdC T z mX8_readSum [.ref 10, .int (iI 0)] (pSm T z 6) (d + 31)) (hC0 : rdC T z mX8_readCondition [.ref 10, .int (iI 0), .int (iI 0)] (pCd T z 6 false) (d + 31)) (hC1 : rdC T z mX8_readCondition [.ref 10, .int (iI 0), .int (iI 1)] (pCd T z 6 true) (d + 31)) (Sh : CL T z h0 h p c) (K1 : ∀ h' p' c', pCl T z c.length p = (-1, p', c') → p + c'.length ≤ p' → CL T z h0 h' p' (c ++ c') → Q none h') (K0 : ∀ h' w, (pCl T z c.length p).1 = w → ¬ w = -1 → CD z h0 h' w → Q none h') : ab_X (d + 32) mX8_readClause 0 (lv_args 0 [.ref 10]) [] h Q := by
  show ab_X (d + 32) mX8_readClause 0 [(0, .ref 10)] [] h Q
  have hz := ht.1
  have hpz := Sh.2.1.2.2.2.2
  have hcl := Sh.2.2.1
  refine ab_aload_n (k := 0) dX8_readClause_0 rfl rfl ?_
  refine z_getP (b := 1) dX8_readClause_1 fX8_18 rfl rfl rfl ?_
  refine z_bipush dX8_readClause_4 (by decide) ?_
  refine ab_callV (As := [.int (iI 121)]) (rest := []) dX8_readClause_6 lX8_47 rfl (Nat.le_of_ble_eq_true rfl) (Nat.le_of_ble_eq_true rfl) rfl ?_
  have k6 := lk_ge T z p
  refine c_texpect ht (by decide) Sh.2.1 (fun x6 l6 sl6 tl6 => ?_) (fun x6 e6 se6 te6 => ?_)
  · skip
    have Sl6 := CL_t Sh sl6 tl6 (by omega)
    have b6 := Sl6.2.1.2.2.2.2
    show ab_X (d + 32) mX8_readClause 9 [(0, .ref 10)] [] l6 _
    refine ab_aload_n (k := 0) dX8_readClause_9 rfl rfl ?_
    refine z_getP (b := 1) dX8_readClause_10 fX8_18 rfl rfl rfl ?_
    refine z_bipush dX8_readClause_13 (by decide) ?_
    refine ab_callV (As := [.int (iI 58)]) (rest := []) dX8_readClause_15 lX8_47 rfl (Nat.le_of_ble_eq_true rfl) (Nat.le_of_ble_eq_true rfl) rfl ?_
    have k15 := lk_ge T z (lk T z p + 1)
    refine c_texpect ht (by decide) Sl6.2.1 (fun x15 l15 sl15 tl15 => ?_) (fun x15 e15 se15 te15 => ?_)
    · skip
      have Sl15 := CL_t Sl6 sl15 tl15 (by omega)
      have b15 := Sl15.2.1.2.2.2.2
      show ab_X (d + 32) mX8_readClause 18 [(0, .ref 10)] [] l15 _
      refine ab_aload_n (k := 0) dX8_readClause_18 rfl rfl ?_
      refine z_getP (b := 1) dX8_readClause_19 fX8_18 rfl rfl rfl ?_
      refine ab_callV (As := []) (rest := []) dX8_readClause_22 lX8_34 rfl (Nat.le_of_ble_eq_true rfl) (Nat.le_of_ble_eq_true rfl) rfl ?_
      refine c_tlook ht Sl15.2.1 (fun l22 sl22 tl22 => ?_)
      have k22 := lk_ge T z (lk T z (lk T z p + 1) + 1)
      have Sl22 := CL_t Sl15 sl22 tl22 (by omega)
      have y22 := sg_b ht (lk T z (lk T z p + 1) + 1)
      show ab_X (d + 32) mX8_readClause 25 [(0, .ref 10)] [.int (iI (sg T z (lk T z (lk T z p + 1) + 1)))] l22 _
      refine ab_istore_n (ls' := [(1, .int (iI (sg T z (lk T z (lk T z p + 1) + 1)))), (0, .ref 10)]) dX8_readClause_25 rfl (by decide) rfl ?_
      refine ab_iload_n (k := 0) dX8_readClause_26 rfl rfl ?_
      refine z_bipush dX8_readClause_27 (by decide) ?_
      refine z_icmp_eq (tgt := 42) dX8_readClause_29 (by decide) (by omega) (by decide) (fun c29 => ?_) (fun c29 => ?_)
      · skip
        refine z_iconst dX8_readClause_42 ?_
        refine ab_istore_n (ls' := [(2, .int (iI 0)), (1, .int (iI (sg T z (lk T z (lk T z p + 1) + 1)))), (0, .ref 10)]) dX8_readClause_43 rfl (by decide) rfl ?_
        refine ab_iload_n (k := 0) dX8_readClause_44 rfl rfl ?_
        refine z_if_eq (tgt := 53) dX8_readClause_45 (by decide) (by decide) (fun _ => ?_) (fun c45 => absurd c45 (by decide))
        refine ab_iload_n (k := 0) dX8_readClause_53 rfl rfl ?_
        refine z_if_eq (tgt := 82) dX8_readClause_54 (by decide) (by decide) (fun _ => ?_) (fun c54 => absurd c54 (by decide))
        refine ab_aload_n (k := 2) dX8_readClause_82 rfl rfl ?_
        refine z_iconst dX8_readClause_83 ?_
        refine ab_iload_n (k := 0) dX8_readClause_84 rfl rfl ?_
        refine ab_callV (As := [.int (iI 0), .int (iI 0)]) (rest := []) dX8_readClause_85 lX8_63 rfl (Nat.le_of_ble_eq_true rfl) (Nat.le_of_ble_eq_true rfl) rfl ?_
        refine hC0 h0 _ _ _ _ Sl22 (fun l85 p85 c85 j85 b85 Sl85 => ?_) (fun e85 w85 j85 n85 Se85 => ?_)
        · skip
          have r85 := Sl85.2.1.2.2.2.2
          show ab_X (d + 32) mX8_readClause 88 [(2, .int (iI 0)), (1, .int (iI (sg T z (lk T z (lk T z p + 1) + 1)))), (0, .ref 10)] [] l85 _
          refine ab_aload_n (k := 2) dX8_readClause_88 rfl rfl ?_
          refine z_getP (b := 1) dX8_readClause_89 fX8_18 rfl rfl rfl ?_
          refine z_bipush dX8_readClause_92 (by decide) ?_
          refine ab_callV (As := [.int (iI 63)]) (rest := []) dX8_readClause_94 lX8_47 rfl (Nat.le_of_ble_eq_true rfl) (Nat.le_of_ble_eq_true rfl) rfl ?_
          have k94 := lk_ge T z p85
          refine c_texpect ht (by decide) Sl85.2.1 (fun x94 l94 sl94 tl94 => ?_) (fun x94 e94 se94 te94 => ?_)
          · skip
            have Sl94 := CL_t Sl85 sl94 tl94 (by omega)
            have b94 := Sl94.2.1.2.2.2.2
            show ab_X (d + 32) mX8_readClause 97 [(2, .int (iI 0)), (1, .int (iI (sg T z (lk T z (lk T z p + 1) + 1)))), (0, .ref 10)] [] l94 _
            refine ab_aload_n (k := 2) dX8_readClause_97 rfl rfl ?_
            refine z_getP (b := 11) dX8_readClause_98 fX8_12 rfl rfl rfl ?_
            refine z_getI dX8_readClause_101 fX8_27 rfl (Or.inl rfl) ?_
            refine z_is (y := (((c ++ c85).length : Nat) : Int)) Sl94.2.2.2.1 ?_
            refine ab_istore_n (ls' := [(3, .int (iI (((c ++ c85).length : Nat) : Int))), (2, .int (iI 0)), (1, .int (iI (sg T z (lk T z (lk T z p + 1) + 1)))), (0, .ref 10)]) dX8_readClause_104 rfl (by decide) rfl ?_
            refine ab_aload_n (k := 3) dX8_readClause_105 rfl rfl ?_
            refine z_getP (b := 11) dX8_readClause_106 fX8_12 rfl rfl rfl ?_
            refine z_bipush dX8_readClause_109 (by decide) ?_
            refine z_iconst dX8_readClause_111 ?_
            refine ab_callV (As := [.int (iI 12), .int (iI 0)]) (rest := []) dX8_readClause_112 lX8_59 rfl (Nat.le_of_ble_eq_true rfl) (Nat.le_of_ble_eq_true rfl) rfl ?_
            have q112 : ((c ++ c85)).length + 1 ≤ (lk T z p85 + 1) := by (try simp only [List.length_append, List.length_cons, List.length_nil]); omega
            have r112 := Sl94.2.1.2.2.2.2
            refine c_add11 Sl94.2.2.2 (by omega) (by decide) (by decide) (fun l112 sl112 Cl112 => ?_)
            have Sl112 := CL_add Sl94 q112 sl112 Cl112
            show ab_X (d + 32) mX8_readClause 115 [(3, .int (iI (((c ++ c85).length : Nat) : Int))), (2, .int (iI 0)), (1, .int (iI (sg T z (lk T z (lk T z p + 1) + 1)))), (0, .ref 10)] [] l112 _
            refine ab_aload_n (k := 3) dX8_readClause_115 rfl rfl ?_
            refine z_iconst dX8_readClause_116 ?_
            refine ab_callV (As := [.int (iI 0)]) (rest := []) dX8_readClause_117 lX8_51 rfl (Nat.le_of_ble_eq_true rfl) (Nat.le_of_ble_eq_true rfl) rfl ?_
            refine hS h0 _ _ _ _ Sl112 (fun l117 p117 c117 j117 b117 Sl117 => ?_) (fun e117 w117 j117 n117 Se117 => ?_)
            · skip
              have r117 := Sl117.2.1.2.2.2.2
              show ab_X (d + 32) mX8_readClause 120 [(3, .int (iI (((c ++ c85).length : Nat) : Int))), (2, .int (iI 0)), (1, .int (iI (sg T z (lk T z (lk T z p + 1) + 1)))), (0, .ref 10)] [] l117 _
              refine ab_aload_n (k := 3) dX8_readClause_120 rfl rfl ?_
              refine z_getP (b := 11) dX8_readClause_121 fX8_12 rfl rfl rfl ?_
              refine z_bipush dX8_readClause_124 (by decide) ?_
              refine z_iconst dX8_readClause_126 ?_
              refine ab_callV (As := [.int (iI 13), .int (iI 0)]) (rest := []) dX8_readClause_127 lX8_59 rfl (Nat.le_of_ble_eq_true rfl) (Nat.le_of_ble_eq_true rfl) rfl ?_
              have q127 : ((((c ++ c85) ++ [(12, 0)]) ++ c117)).length + 1 ≤ p117 := by (try simp only [List.length_append, List.length_cons, List.length_nil]); omega
              have r127 := Sl117.2.1.2.2.2.2
              refine c_add11 Sl117.2.2.2 (by omega) (by decide) (by decide) (fun l127 sl127 Cl127 => ?_)
              have Sl127 := CL_add Sl117 q127 sl127 Cl127
              show ab_X (d + 32) mX8_readClause 130 [(3, .int (iI (((c ++ c85).length : Nat) : Int))), (2, .int (iI 0)), (1, .int (iI (sg T z (lk T z (lk T z p + 1) + 1)))), (0, .ref 10)] [] l127 _
              refine ab_aload_n (k := 3) dX8_readClause_130 rfl rfl ?_
              refine z_getP (b := 11) dX8_readClause_131 fX8_12 rfl rfl rfl ?_
              refine ab_iload_n (k := 0) dX8_readClause_134 rfl rfl ?_
              refine ab_aload_n (k := 3) dX8_readClause_135 rfl rfl ?_
              refine z_getP (b := 11) dX8_readClause_136 fX8_12 rfl rfl rfl ?_
              refine z_getI dX8_readClause_139 fX8_27 rfl (Or.inl rfl) ?_
              refine z_is (y := ((((((c ++ c85) ++ [(12, 0)]) ++ c117) ++ [(13, 0)]).length : Nat) : Int)) Sl127.2.2.2.1 ?_
              refine ab_callV (As := [.int (iI (((c ++ c85).length : Nat) : Int)), .int (iI ((((((c ++ c85) ++ [(12, 0)]) ++ c117) ++ [(13, 0)]).length : Nat) : Int))]) (rest := []) dX8_readClause_142 lX8_67 rfl (Nat.le_of_ble_eq_true rfl) (Nat.le_of_ble_eq_true rfl) rfl ?_
              have eL : ((((c ++ c85) ++ [(12, 0)]) ++ c117) ++ [(13, 0)]) = ((c ++ c85) ++ (12, 0) :: (c117 ++ [(13, 0)])) := by simp only [List.append_assoc, List.cons_append, List.nil_append]
              have Cx : CCr 11 l127 ((c ++ c85) ++ (12, 0) :: (c117 ++ [(13, 0)])) := by rw [← eL]; exact Sl127.2.2.2
              have q142 := Sl127.2.2.1
              have qq142 := Sl127.2.1.2.2.2.2
              refine c_setDet Cx rfl (by rw [← eL]; omega) (by omega) (fun l142 sl142 Cl142 => ?_)
              have Sl142 := CL_set Sl127 (by simp only [List.length_append, List.length_cons, List.length_nil]; omega) sl142 Cl142
              show ab_X (d + 32) mX8_readClause 145 [(3, .int (iI (((c ++ c85).length : Nat) : Int))), (2, .int (iI 0)), (1, .int (iI (sg T z (lk T z (lk T z p + 1) + 1)))), (0, .ref 10)] [] l142 _
              refine z_vret dX8_readClause_145 rfl ?_
              first
              | (have eK := (cl_1 (o1 := c.length) x6 x15).trans ((body_1 (p := (lk T z (lk T z p + 1) + 1)) (by omega) j85).trans (tail_1 x94 j117))
                 refine K1 _ _ _ eK (by simp only [List.length_append, List.length_cons, List.length_nil]; omega) ?_
                 have eV : ((c.length + (c85).length + c117.length + 2 : Nat) : Int) = ((((((c ++ c85) ++ [(12, 0)]) ++ c117) ++ [(13, 0)]).length : Nat) : Int) := by simp only [List.length_append, List.length_cons, List.length_nil]; omega
                 rw [eV]
                 simp only [List.append_assoc] at Sl142 ⊢
                 exact Sl142)
              | (have eK := (cl_1 (o1 := c.length) x6 x15).trans ((body_5 (p := (lk T z (lk T z p + 1) + 1)) (by omega) j50 (by omega) j85).trans (tail_1 x94 j117))
                 refine K1 _ _ _ eK (by simp only [List.length_append, List.length_cons, List.length_nil]; omega) ?_
                 have eV : ((c.length + (c50 ++ c85).length + c117.length + 2 : Nat) : Int) = ((((((c ++ c85) ++ [(12, 0)]) ++ c117) ++ [(13, 0)]).length : Nat) : Int) := by simp only [List.length_append, List.length_cons, List.length_nil]; omega
                 rw [eV]
                 simp only [List.append_assoc] at Sl142 ⊢
                 exact Sl142)
            · skip
              show ab_X (d + 32) mX8_readClause 120 [(3, .int (iI (((c ++ c85).length : Nat) : Int))), (2, .int (iI 0)), (1, .int (iI (sg T z (lk T z (lk T z p + 1) + 1)))), (0, .ref 10)] [] e117 _
              refine ab_aload_n (k := 3) dX8_readClause_120 rfl rfl ?_
              refine z_getP (b := 11) dX8_readClause_121 fX8_12 rfl rfl rfl ?_
              refine z_bipush dX8_readClause_124 (by decide) ?_
              refine z_iconst dX8_readClause_126 ?_
              refine ab_callV (As := [.int (iI 13), .int (iI 0)]) (rest := []) dX8_readClause_127 lX8_59 rfl (Nat.le_of_ble_eq_true rfl) (Nat.le_of_ble_eq_true rfl) rfl ?_
              refine c_add11d Se117.2.2 (fun e127 se127 Ce127 => ?_)
              have Se127 := CD_add Se117 se127 Ce127
              show ab_X (d + 32) mX8_readClause 130 [(3, .int (iI (((c ++ c85).length : Nat) : Int))), (2, .int (iI 0)), (1, .int (iI (sg T z (lk T z (lk T z p + 1) + 1)))), (0, .ref 10)] [] e127 _
              refine ab_aload_n (k := 3) dX8_readClause_130 rfl rfl ?_
              refine z_getP (b := 11) dX8_readClause_131 fX8_12 rfl rfl rfl ?_
              refine ab_iload_n (k := 0) dX8_readClause_134 rfl rfl ?_
              refine ab_aload_n (k := 3) dX8_readClause_135 rfl rfl ?_
              refine z_getP (b := 11) dX8_readClause_136 fX8_12 rfl rfl rfl ?_
              refine z_getI dX8_readClause_139 fX8_27 rfl (Or.inl rfl) ?_
              have b1 := zv_R e127 11 3
              refine ab_callV (As := [.int (iI (((c ++ c85).length : Nat) : Int)), .int (iI (zv e127 11 3))]) (rest := []) dX8_readClause_142 lX8_67 rfl (Nat.le_of_ble_eq_true rfl) (Nat.le_of_ble_eq_true rfl) rfl ?_
              refine c_setDetD (by omega) Se127.2.2 (fun e142 se142 Ce142 => ?_)
              have Se142 := CD_add Se127 se142 Ce142
              show ab_X (d + 32) mX8_readClause 145 [(3, .int (iI (((c ++ c85).length : Nat) : Int))), (2, .int (iI 0)), (1, .int (iI (sg T z (lk T z (lk T z p + 1) + 1)))), (0, .ref 10)] [] e142 _
              refine z_vret dX8_readClause_145 rfl ?_
              first
              | exact K0 _ _ ((congrArg Prod.fst (cl_1 x6 x15)).trans ((congrArg Prod.fst (body_1 (p := (lk T z (lk T z p + 1) + 1)) (by omega) j85)).trans (tail_2 x94 j117 n117))) n117 Se142
              | exact K0 _ _ ((congrArg Prod.fst (cl_1 x6 x15)).trans ((congrArg Prod.fst (body_5 (p := (lk T z (lk T z p + 1) + 1)) (by omega) j50 (by omega) j85)).trans (tail_2 x94 j117 n117))) n117 Se142
              | exact K0 _ _ ((congrArg Prod.fst (cl_1 x6 x15)).trans ((congrArg Prod.fst (body_1 (p := (lk T z (lk T z p + 1) + 1)) (by omega) j85)).trans (tail_3 x94))) (by omega) Se142
              | exact K0 _ _ ((congrArg Prod.fst (cl_1 x6 x15)).trans ((congrArg Prod.fst (body_5 (p := (lk T z (lk T z p + 1) + 1)) (by omega) j50 (by omega) j85)).trans (tail_3 x94))) (by omega) Se142
              | exact K0 _ _ ((congrArg Prod.fst (cl_1 x6 x15)).trans (body_2 (by omega) j85 n85)) n85 Se142
              | exact K0 _ _ ((congrArg Prod.fst (cl_1 x6 x15)).trans (body_6 (by omega) j50 (by omega) j85 n85)) n85 Se142
              | exact K0 _ _ ((congrArg Prod.fst (cl_1 x6 x15)).trans (body_3 (by omega) j50 n50)) n50 Se142
              | exact K0 _ _ (cl_2 x6 x15) (by omega) Se142
              | exact K0 _ _ (cl_3 x6) (by omega) Se142
          · skip
            have Se94 := CL_d Sl85 hz se94 te94
            show ab_X (d + 32) mX8_readClause 97 [(2, .int (iI 0)), (1, .int (iI (sg T z (lk T z (lk T z p + 1) + 1)))), (0, .ref 10)] [] e94 _
            refine ab_aload_n (k := 2) dX8_readClause_97 rfl rfl ?_
            refine z_getP (b := 11) dX8_readClause_98 fX8_12 rfl rfl rfl ?_
            refine z_getI dX8_readClause_101 fX8_27 rfl (Or.inl rfl) ?_
            have b2 := zv_R e94 11 3
            refine ab_istore_n (ls' := [(3, .int (iI (zv e94 11 3))), (2, .int (iI 0)), (1, .int (iI (sg T z (lk T z (lk T z p + 1) + 1)))), (0, .ref 10)]) dX8_readClause_104 rfl (by decide) rfl ?_
            refine ab_aload_n (k := 3) dX8_readClause_105 rfl rfl ?_
            refine z_getP (b := 11) dX8_readClause_106 fX8_12 rfl rfl rfl ?_
            refine z_bipush dX8_readClause_109 (by decide) ?_
            refine z_iconst dX8_readClause_111 ?_
            refine ab_callV (As := [.int (iI 12), .int (iI 0)]) (rest := []) dX8_readClause_112 lX8_59 rfl (Nat.le_of_ble_eq_true rfl) (Nat.le_of_ble_eq_true rfl) rfl ?_
            refine c_add11d Se94.2.2 (fun e112 se112 Ce112 => ?_)
            have Se112 := CD_add Se94 se112 Ce112
            show ab_X (d + 32) mX8_readClause 115 [(3, .int (iI (zv e94 11 3))), (2, .int (iI 0)), (1, .int (iI (sg T z (lk T z (lk T z p + 1) + 1)))), (0, .ref 10)] [] e112 _
            refine ab_aload_n (k := 3) dX8_readClause_115 rfl rfl ?_
            refine z_iconst dX8_readClause_116 ?_
            refine ab_callV (As := [.int (iI 0)]) (rest := []) dX8_readClause_117 lX8_51 rfl (Nat.le_of_ble_eq_true rfl) (Nat.le_of_ble_eq_true rfl) rfl ?_
            refine (d_readSum (d := d + 24) (D := 0) hz) h0 _ _ _ Se112 (fun e117 Se117 => ?_)
            show ab_X (d + 32) mX8_readClause 120 [(3, .int (iI (zv e94 11 3))), (2, .int (iI 0)), (1, .int (iI (sg T z (lk T z (lk T z p + 1) + 1)))), (0, .ref 10)] [] e117 _
            refine ab_aload_n (k := 3) dX8_readClause_120 rfl rfl ?_
            refine z_getP (b := 11) dX8_readClause_121 fX8_12 rfl rfl rfl ?_
            refine z_bipush dX8_readClause_124 (by decide) ?_
            refine z_iconst dX8_readClause_126 ?_
            refine ab_callV (As := [.int (iI 13), .int (iI 0)]) (rest := []) dX8_readClause_127 lX8_59 rfl (Nat.le_of_ble_eq_true rfl) (Nat.le_of_ble_eq_true rfl) rfl ?_
            refine c_add11d Se117.2.2 (fun e127 se127 Ce127 => ?_)
            have Se127 := CD_add Se117 se127 Ce127
            show ab_X (d + 32) mX8_readClause 130 [(3, .int (iI (zv e94 11 3))), (2, .int (iI 0)), (1, .int (iI (sg T z (lk T z (lk T z p + 1) + 1)))), (0, .ref 10)] [] e127 _
            refine ab_aload_n (k := 3) dX8_readClause_130 rfl rfl ?_
            refine z_getP (b := 11) dX8_readClause_131 fX8_12 rfl rfl rfl ?_
            refine ab_iload_n (k := 0) dX8_readClause_134 rfl rfl ?_
            refine ab_aload_n (k := 3) dX8_readClause_135 rfl rfl ?_
            refine z_getP (b := 11) dX8_readClause_136 fX8_12 rfl rfl rfl ?_
            refine z_getI dX8_readClause_139 fX8_27 rfl (Or.inl rfl) ?_
            have b3 := zv_R e127 11 3
            refine ab_callV (As := [.int (iI (zv e94 11 3)), .int (iI (zv e127 11 3))]) (rest := []) dX8_readClause_142 lX8_67 rfl (Nat.le_of_ble_eq_true rfl) (Nat.le_of_ble_eq_true rfl) rfl ?_
            refine c_setDetD (by omega) Se127.2.2 (fun e142 se142 Ce142 => ?_)
            have Se142 := CD_add Se127 se142 Ce142
            show ab_X (d + 32) mX8_readClause 145 [(3, .int (iI (zv e94 11 3))), (2, .int (iI 0)), (1, .int (iI (sg T z (lk T z (lk T z p + 1) + 1)))), (0, .ref 10)] [] e142 _
            refine z_vret dX8_readClause_145 rfl ?_
            first
            | exact K0 _ _ ((congrArg Prod.fst (cl_1 x6 x15)).trans ((congrArg Prod.fst (body_1 (p := (lk T z (lk T z p + 1) + 1)) (by omega) j85)).trans (tail_2 x94 j117 n117))) n117 Se142
            | exact K0 _ _ ((congrArg Prod.fst (cl_1 x6 x15)).trans ((congrArg Prod.fst (body_5 (p := (lk T z (lk T z p + 1) + 1)) (by omega) j50 (by omega) j85)).trans (tail_2 x94 j117 n117))) n117 Se142
            | exact K0 _ _ ((congrArg Prod.fst (cl_1 x6 x15)).trans ((congrArg Prod.fst (body_1 (p := (lk T z (lk T z p + 1) + 1)) (by omega) j85)).trans (tail_3 x94))) (by omega) Se142
            | exact K0 _ _ ((congrArg Prod.fst (cl_1 x6 x15)).trans ((congrArg Prod.fst (body_5 (p := (lk T z (lk T z p + 1) + 1)) (by omega) j50 (by omega) j85)).trans (tail_3 x94))) (by omega) Se142
            | exact K0 _ _ ((congrArg Prod.fst (cl_1 x6 x15)).trans (body_2 (by omega) j85 n85)) n85 Se142
            | exact K0 _ _ ((congrArg Prod.fst (cl_1 x6 x15)).trans (body_6 (by omega) j50 (by omega) j85 n85)) n85 Se142
            | exact K0 _ _ ((congrArg Prod.fst (cl_1 x6 x15)).trans (body_3 (by omega) j50 n50)) n50 Se142
            | exact K0 _ _ (cl_2 x6 x15) (by omega) Se142
            | exact K0 _ _ (cl_3 x6) (by omega) Se142
        · skip
          show ab_X (d + 32) mX8_readClause 88 [(2, .int (iI 0)), (1, .int (iI (sg T z (lk T z (lk T z p + 1) + 1)))), (0, .ref 10)] [] e85 _
          refine ab_aload_n (k := 2) dX8_readClause_88 rfl rfl ?_
          refine z_getP (b := 1) dX8_readClause_89 fX8_18 rfl rfl rfl ?_
          refine z_bipush dX8_readClause_92 (by decide) ?_
          refine ab_callV (As := [.int (iI 63)]) (rest := []) dX8_readClause_94 lX8_47 rfl (Nat.le_of_ble_eq_true rfl) (Nat.le_of_ble_eq_true rfl) rfl ?_
          refine c_dexpect hz (by decide) Se85.2.1 (fun e94 se94 te94 => ?_)
          have Se94 := CD_d Se85 se94 te94
          show ab_X (d + 32) mX8_readClause 97 [(2, .int (iI 0)), (1, .int (iI (sg T z (lk T z (lk T z p + 1) + 1)))), (0, .ref 10)] [] e94 _
          refine ab_aload_n (k := 2) dX8_readClause_97 rfl rfl ?_
          refine z_getP (b := 11) dX8_readClause_98 fX8_12 rfl rfl rfl ?_
          refine z_getI dX8_readClause_101 fX8_27 rfl (Or.inl rfl) ?_
          have b4 := zv_R e94 11 3
          refine ab_istore_n (ls' := [(3, .int (iI (zv e94 11 3))), (2, .int (iI 0)), (1, .int (iI (sg T z (lk T z (lk T z p + 1) + 1)))), (0, .ref 10)]) dX8_readClause_104 rfl (by decide) rfl ?_
          refine ab_aload_n (k := 3) dX8_readClause_105 rfl rfl ?_
          refine z_getP (b := 11) dX8_readClause_106 fX8_12 rfl rfl rfl ?_
          refine z_bipush dX8_readClause_109 (by decide) ?_
          refine z_iconst dX8_readClause_111 ?_
          refine ab_callV (As := [.int (iI 12), .int (iI 0)]) (rest := []) dX8_readClause_112 lX8_59 rfl (Nat.le_of_ble_eq_true rfl) (Nat.le_of_ble_eq_true rfl) rfl ?_
          refine c_add11d Se94.2.2 (fun e112 se112 Ce112 => ?_)
          have Se112 := CD_add Se94 se112 Ce112
          show ab_X (d + 32) mX8_readClause 115 [(3, .int (iI (zv e94 11 3))), (2, .int (iI 0)), (1, .int (iI (sg T z (lk T z (lk T z p + 1) + 1)))), (0, .ref 10)] [] e112 _
          refine ab_aload_n (k := 3) dX8_readClause_115 rfl rfl ?_
          refine z_iconst dX8_readClause_116 ?_
          refine ab_callV (As := [.int (iI 0)]) (rest := []) dX8_readClause_117 lX8_51 rfl (Nat.le_of_ble_eq_true rfl) (Nat.le_of_ble_eq_true rfl) rfl ?_
          refine (d_readSum (d := d + 24) (D := 0) hz) h0 _ _ _ Se112 (fun e117 Se117 => ?_)
          show ab_X (d + 32) mX8_readClause 120 [(3, .int (iI (zv e94 11 3))), (2, .int (iI 0)), (1, .int (iI (sg T z (lk T z (lk T z p + 1) + 1)))), (0, .ref 10)] [] e117 _
          refine ab_aload_n (k := 3) dX8_readClause_120 rfl rfl ?_
          refine z_getP (b := 11) dX8_readClause_121 fX8_12 rfl rfl rfl ?_
          refine z_bipush dX8_readClause_124 (by decide) ?_
          refine z_iconst dX8_readClause_126 ?_
          refine ab_callV (As := [.int (iI 13), .int (iI 0)]) (rest := []) dX8_readClause_127 lX8_59 rfl (Nat.le_of_ble_eq_true rfl) (Nat.le_of_ble_eq_true rfl) rfl ?_
          refine c_add11d Se117.2.2 (fun e127 se127 Ce127 => ?_)
          have Se127 := CD_add Se117 se127 Ce127
          show ab_X (d + 32) mX8_readClause 130 [(3, .int (iI (zv e94 11 3))), (2, .int (iI 0)), (1, .int (iI (sg T z (lk T z (lk T z p + 1) + 1)))), (0, .ref 10)] [] e127 _
          refine ab_aload_n (k := 3) dX8_readClause_130 rfl rfl ?_
          refine z_getP (b := 11) dX8_readClause_131 fX8_12 rfl rfl rfl ?_
          refine ab_iload_n (k := 0) dX8_readClause_134 rfl rfl ?_
          refine ab_aload_n (k := 3) dX8_readClause_135 rfl rfl ?_
          refine z_getP (b := 11) dX8_readClause_136 fX8_12 rfl rfl rfl ?_
          refine z_getI dX8_readClause_139 fX8_27 rfl (Or.inl rfl) ?_
          have b5 := zv_R e127 11 3
          refine ab_callV (As := [.int (iI (zv e94 11 3)), .int (iI (zv e127 11 3))]) (rest := []) dX8_readClause_142 lX8_67 rfl (Nat.le_of_ble_eq_true rfl) (Nat.le_of_ble_eq_true rfl) rfl ?_
          refine c_setDetD (by omega) Se127.2.2 (fun e142 se142 Ce142 => ?_)
          have Se142 := CD_add Se127 se142 Ce142
          show ab_X (d + 32) mX8_readClause 145 [(3, .int (iI (zv e94 11 3))), (2, .int (iI 0)), (1, .int (iI (sg T z (lk T z (lk T z p + 1) + 1)))), (0, .ref 10)] [] e142 _
          refine z_vret dX8_readClause_145 rfl ?_
          first
          | exact K0 _ _ ((congrArg Prod.fst (cl_1 x6 x15)).trans ((congrArg Prod.fst (body_1 (p := (lk T z (lk T z p + 1) + 1)) (by omega) j85)).trans (tail_2 x94 j117 n117))) n117 Se142
          | exact K0 _ _ ((congrArg Prod.fst (cl_1 x6 x15)).trans ((congrArg Prod.fst (body_5 (p := (lk T z (lk T z p + 1) + 1)) (by omega) j50 (by omega) j85)).trans (tail_2 x94 j117 n117))) n117 Se142
          | exact K0 _ _ ((congrArg Prod.fst (cl_1 x6 x15)).trans ((congrArg Prod.fst (body_1 (p := (lk T z (lk T z p + 1) + 1)) (by omega) j85)).trans (tail_3 x94))) (by omega) Se142
          | exact K0 _ _ ((congrArg Prod.fst (cl_1 x6 x15)).trans ((congrArg Prod.fst (body_5 (p := (lk T z (lk T z p + 1) + 1)) (by omega) j50 (by omega) j85)).trans (tail_3 x94))) (by omega) Se142
          | exact K0 _ _ ((congrArg Prod.fst (cl_1 x6 x15)).trans (body_2 (by omega) j85 n85)) n85 Se142
          | exact K0 _ _ ((congrArg Prod.fst (cl_1 x6 x15)).trans (body_6 (by omega) j50 (by omega) j85 n85)) n85 Se142
          | exact K0 _ _ ((congrArg Prod.fst (cl_1 x6 x15)).trans (body_3 (by omega) j50 n50)) n50 Se142
          | exact K0 _ _ (cl_2 x6 x15) (by omega) Se142
          | exact K0 _ _ (cl_3 x6) (by omega) Se142
      · skip
        refine ab_iload_n (k := 0) dX8_readClause_32 rfl rfl ?_
        refine z_bipush dX8_readClause_33 (by decide) ?_
        refine z_icmp_eq (tgt := 42) dX8_readClause_35 (by decide) (by omega) (by decide) (fun c35 => ?_) (fun c35 => ?_)
        · skip
          refine z_iconst dX8_readClause_42 ?_
          refine ab_istore_n (ls' := [(2, .int (iI 0)), (1, .int (iI (sg T z (lk T z (lk T z p + 1) + 1)))), (0, .ref 10)]) dX8_readClause_43 rfl (by decide) rfl ?_
          refine ab_iload_n (k := 0) dX8_readClause_44 rfl rfl ?_
          refine z_if_eq (tgt := 53) dX8_readClause_45 (by decide) (by decide) (fun _ => ?_) (fun c45 => absurd c45 (by decide))
          refine ab_iload_n (k := 0) dX8_readClause_53 rfl rfl ?_
          refine z_if_eq (tgt := 82) dX8_readClause_54 (by decide) (by decide) (fun _ => ?_) (fun c54 => absurd c54 (by decide))
          refine ab_aload_n (k := 2) dX8_readClause_82 rfl rfl ?_
          refine z_iconst dX8_readClause_83 ?_
          refine ab_iload_n (k := 0) dX8_readClause_84 rfl rfl ?_
          refine ab_callV (As := [.int (iI 0), .int (iI 0)]) (rest := []) dX8_readClause_85 lX8_63 rfl (Nat.le_of_ble_eq_true rfl) (Nat.le_of_ble_eq_true rfl) rfl ?_
          refine hC0 h0 _ _ _ _ Sl22 (fun l85 p85 c85 j85 b85 Sl85 => ?_) (fun e85 w85 j85 n85 Se85 => ?_)
          · skip
            have r85 := Sl85.2.1.2.2.2.2
            show ab_X (d + 32) mX8_readClause 88 [(2, .int (iI 0)), (1, .int (iI (sg T z (lk T z (lk T z p + 1) + 1)))), (0, .ref 10)] [] l85 _
            refine ab_aload_n (k := 2) dX8_readClause_88 rfl rfl ?_
            refine z_getP (b := 1) dX8_readClause_89 fX8_18 rfl rfl rfl ?_
            refine z_bipush dX8_readClause_92 (by decide) ?_
            refine ab_callV (As := [.int (iI 63)]) (rest := []) dX8_readClause_94 lX8_47 rfl (Nat.le_of_ble_eq_true rfl) (Nat.le_of_ble_eq_true rfl) rfl ?_
            have k94 := lk_ge T z p85
            refine c_texpect ht (by decide) Sl85.2.1 (fun x94 l94 sl94 tl94 => ?_) (fun x94 e94 se94 te94 => ?_)
            · skip
              have Sl94 := CL_t Sl85 sl94 tl94 (by omega)
              have b94 := Sl94.2.1.2.2.2.2
              show ab_X (d + 32) mX8_readClause 97 [(2, .int (iI 0)), (1, .int (iI (sg T z (lk T z (lk T z p + 1) + 1)))), (0, .ref 10)] [] l94 _
              refine ab_aload_n (k := 2) dX8_readClause_97 rfl rfl ?_
              refine z_getP (b := 11) dX8_readClause_98 fX8_12 rfl rfl rfl ?_
              refine z_getI dX8_readClause_101 fX8_27 rfl (Or.inl rfl) ?_
              refine z_is (y := (((c ++ c85).length : Nat) : Int)) Sl94.2.2.2.1 ?_
              refine ab_istore_n (ls' := [(3, .int (iI (((c ++ c85).length : Nat) : Int))), (2, .int (iI 0)), (1, .int (iI (sg T z (lk T z (lk T z p + 1) + 1)))), (0, .ref 10)]) dX8_readClause_104 rfl (by decide) rfl ?_
              refine ab_aload_n (k := 3) dX8_readClause_105 rfl rfl ?_
              refine z_getP (b := 11) dX8_readClause_106 fX8_12 rfl rfl rfl ?_
              refine z_bipush dX8_readClause_109 (by decide) ?_
              refine z_iconst dX8_readClause_111 ?_
              refine ab_callV (As := [.int (iI 12), .int (iI 0)]) (rest := []) dX8_readClause_112 lX8_59 rfl (Nat.le_of_ble_eq_true rfl) (Nat.le_of_ble_eq_true rfl) rfl ?_
              have q112 : ((c ++ c85)).length + 1 ≤ (lk T z p85 + 1) := by (try simp only [List.length_append, List.length_cons, List.length_nil]); omega
              have r112 := Sl94.2.1.2.2.2.2
              refine c_add11 Sl94.2.2.2 (by omega) (by decide) (by decide) (fun l112 sl112 Cl112 => ?_)
              have Sl112 := CL_add Sl94 q112 sl112 Cl112
              show ab_X (d + 32) mX8_readClause 115 [(3, .int (iI (((c ++ c85).length : Nat) : Int))), (2, .int (iI 0)), (1, .int (iI (sg T z (lk T z (lk T z p + 1) + 1)))), (0, .ref 10)] [] l112 _
              refine ab_aload_n (k := 3) dX8_readClause_115 rfl rfl ?_
              refine z_iconst dX8_readClause_116 ?_
              refine ab_callV (As := [.int (iI 0)]) (rest := []) dX8_readClause_117 lX8_51 rfl (Nat.le_of_ble_eq_true rfl) (Nat.le_of_ble_eq_true rfl) rfl ?_
              refine hS h0 _ _ _ _ Sl112 (fun l117 p117 c117 j117 b117 Sl117 => ?_) (fun e117 w117 j117 n117 Se117 => ?_)
              · skip
                have r117 := Sl117.2.1.2.2.2.2
                show ab_X (d + 32) mX8_readClause 120 [(3, .int (iI (((c ++ c85).length : Nat) : Int))), (2, .int (iI 0)), (1, .int (iI (sg T z (lk T z (lk T z p + 1) + 1)))), (0, .ref 10)] [] l117 _
                refine ab_aload_n (k := 3) dX8_readClause_120 rfl rfl ?_
                refine z_getP (b := 11) dX8_readClause_121 fX8_12 rfl rfl rfl ?_
                refine z_bipush dX8_readClause_124 (by decide) ?_
                refine z_iconst dX8_readClause_126 ?_
                refine ab_callV (As := [.int (iI 13), .int (iI 0)]) (rest := []) dX8_readClause_127 lX8_59 rfl (Nat.le_of_ble_eq_true rfl) (Nat.le_of_ble_eq_true rfl) rfl ?_
                have q127 : ((((c ++ c85) ++ [(12, 0)]) ++ c117)).length + 1 ≤ p117 := by (try simp only [List.length_append, List.length_cons, List.length_nil]); omega
                have r127 := Sl117.2.1.2.2.2.2
                refine c_add11 Sl117.2.2.2 (by omega) (by decide) (by decide) (fun l127 sl127 Cl127 => ?_)
                have Sl127 := CL_add Sl117 q127 sl127 Cl127
                show ab_X (d + 32) mX8_readClause 130 [(3, .int (iI (((c ++ c85).length : Nat) : Int))), (2, .int (iI 0)), (1, .int (iI (sg T z (lk T z (lk T z p + 1) + 1)))), (0, .ref 10)] [] l127 _
                refine ab_aload_n (k := 3) dX8_readClause_130 rfl rfl ?_
                refine z_getP (b := 11) dX8_readClause_131 fX8_12 rfl rfl rfl ?_
                refine ab_iload_n (k := 0) dX8_readClause_134 rfl rfl ?_
                refine ab_aload_n (k := 3) dX8_readClause_135 rfl rfl ?_
                refine z_getP (b := 11) dX8_readClause_136 fX8_12 rfl rfl rfl ?_
                refine z_getI dX8_readClause_139 fX8_27 rfl (Or.inl rfl) ?_
                refine z_is (y := ((((((c ++ c85) ++ [(12, 0)]) ++ c117) ++ [(13, 0)]).length : Nat) : Int)) Sl127.2.2.2.1 ?_
                refine ab_callV (As := [.int (iI (((c ++ c85).length : Nat) : Int)), .int (iI ((((((c ++ c85) ++ [(12, 0)]) ++ c117) ++ [(13, 0)]).length : Nat) : Int))]) (rest := []) dX8_readClause_142 lX8_67 rfl (Nat.le_of_ble_eq_true rfl) (Nat.le_of_ble_eq_true rfl) rfl ?_
                have eL : ((((c ++ c85) ++ [(12, 0)]) ++ c117) ++ [(13, 0)]) = ((c ++ c85) ++ (12, 0) :: (c117 ++ [(13, 0)])) := by simp only [List.append_assoc, List.cons_append, List.nil_append]
                have Cx : CCr 11 l127 ((c ++ c85) ++ (12, 0) :: (c117 ++ [(13, 0)])) := by rw [← eL]; exact Sl127.2.2.2
                have q142 := Sl127.2.2.1
                have qq142 := Sl127.2.1.2.2.2.2
                refine c_setDet Cx rfl (by rw [← eL]; omega) (by omega) (fun l142 sl142 Cl142 => ?_)
                have Sl142 := CL_set Sl127 (by simp only [List.length_append, List.length_cons, List.length_nil]; omega) sl142 Cl142
                show ab_X (d + 32) mX8_readClause 145 [(3, .int (iI (((c ++ c85).length : Nat) : Int))), (2, .int (iI 0)), (1, .int (iI (sg T z (lk T z (lk T z p + 1) + 1)))), (0, .ref 10)] [] l142 _
                refine z_vret dX8_readClause_145 rfl ?_
                first
                | (have eK := (cl_1 (o1 := c.length) x6 x15).trans ((body_1 (p := (lk T z (lk T z p + 1) + 1)) (by omega) j85).trans (tail_1 x94 j117))
                   refine K1 _ _ _ eK (by simp only [List.length_append, List.length_cons, List.length_nil]; omega) ?_
                   have eV : ((c.length + (c85).length + c117.length + 2 : Nat) : Int) = ((((((c ++ c85) ++ [(12, 0)]) ++ c117) ++ [(13, 0)]).length : Nat) : Int) := by simp only [List.length_append, List.length_cons, List.length_nil]; omega
                   rw [eV]
                   simp only [List.append_assoc] at Sl142 ⊢
                   exact Sl142)
                | (have eK := (cl_1 (o1 := c.length) x6 x15).trans ((body_5 (p := (lk T z (lk T z p + 1) + 1)) (by omega) j50 (by omega) j85).trans (tail_1 x94 j117))
                   refine K1 _ _ _ eK (by simp only [List.length_append, List.length_cons, List.length_nil]; omega) ?_
                   have eV : ((c.length + (c50 ++ c85).length + c117.length + 2 : Nat) : Int) = ((((((c ++ c85) ++ [(12, 0)]) ++ c117) ++ [(13, 0)]).length : Nat) : Int) := by simp only [List.length_append, List.length_cons, List.length_nil]; omega
                   rw [eV]
                   simp only [List.append_assoc] at Sl142 ⊢
                   exact Sl142)
              · skip
                show ab_X (d + 32) mX8_readClause 120 [(3, .int (iI (((c ++ c85).length : Nat) : Int))), (2, .int (iI 0)), (1, .int (iI (sg T z (lk T z (lk T z p + 1) + 1)))), (0, .ref 10)] [] e117 _
                refine ab_aload_n (k := 3) dX8_readClause_120 rfl rfl ?_
                refine z_getP (b := 11) dX8_readClause_121 fX8_12 rfl rfl rfl ?_
                refine z_bipush dX8_readClause_124 (by decide) ?_
                refine z_iconst dX8_readClause_126 ?_
                refine ab_callV (As := [.int (iI 13), .int (iI 0)]) (rest := []) dX8_readClause_127 lX8_59 rfl (Nat.le_of_ble_eq_true rfl) (Nat.le_of_ble_eq_true rfl) rfl ?_
                refine c_add11d Se117.2.2 (fun e127 se127 Ce127 => ?_)
                have Se127 := CD_add Se117 se127 Ce127
                show ab_X (d + 32) mX8_readClause 130 [(3, .int (iI (((c ++ c85).length : Nat) : Int))), (2, .int (iI 0)), (1, .int (iI (sg T z (lk T z (lk T z p + 1) + 1)))), (0, .ref 10)] [] e127 _
                refine ab_aload_n (k := 3) dX8_readClause_130 rfl rfl ?_
                refine z_getP (b := 11) dX8_readClause_131 fX8_12 rfl rfl rfl ?_
                refine ab_iload_n (k := 0) dX8_readClause_134 rfl rfl ?_
                refine ab_aload_n (k := 3) dX8_readClause_135 rfl rfl ?_
                refine z_getP (b := 11) dX8_readClause_136 fX8_12 rfl rfl rfl ?_
                refine z_getI dX8_readClause_139 fX8_27 rfl (Or.inl rfl) ?_
                have b6 := zv_R e127 11 3
                refine ab_callV (As := [.int (iI (((c ++ c85).length : Nat) : Int)), .int (iI (zv e127 11 3))]) (rest := []) dX8_readClause_142 lX8_67 rfl (Nat.le_of_ble_eq_true rfl) (Nat.le_of_ble_eq_true rfl) rfl ?_
                refine c_setDetD (by omega) Se127.2.2 (fun e142 se142 Ce142 => ?_)
                have Se142 := CD_add Se127 se142 Ce142
                show ab_X (d + 32) mX8_readClause 145 [(3, .int (iI (((c ++ c85).length : Nat) : Int))), (2, .int (iI 0)), (1, .int (iI (sg T z (lk T z (lk T z p + 1) + 1)))), (0, .ref 10)] [] e142 _
                refine z_vret dX8_readClause_145 rfl ?_
                first
                | exact K0 _ _ ((congrArg Prod.fst (cl_1 x6 x15)).trans ((congrArg Prod.fst (body_1 (p := (lk T z (lk T z p + 1) + 1)) (by omega) j85)).trans (tail_2 x94 j117 n117))) n117 Se142
                | exact K0 _ _ ((congrArg Prod.fst (cl_1 x6 x15)).trans ((congrArg Prod.fst (body_5 (p := (lk T z (lk T z p + 1) + 1)) (by omega) j50 (by omega) j85)).trans (tail_2 x94 j117 n117))) n117 Se142
                | exact K0 _ _ ((congrArg Prod.fst (cl_1 x6 x15)).trans ((congrArg Prod.fst (body_1 (p := (lk T z (lk T z p + 1) + 1)) (by omega) j85)).trans (tail_3 x94))) (by omega) Se142
                | exact K0 _ _ ((congrArg Prod.fst (cl_1 x6 x15)).trans ((congrArg Prod.fst (body_5 (p := (lk T z (lk T z p + 1) + 1)) (by omega) j50 (by omega) j85)).trans (tail_3 x94))) (by omega) Se142
                | exact K0 _ _ ((congrArg Prod.fst (cl_1 x6 x15)).trans (body_2 (by omega) j85 n85)) n85 Se142
                | exact K0 _ _ ((congrArg Prod.fst (cl_1 x6 x15)).trans (body_6 (by omega) j50 (by omega) j85 n85)) n85 Se142
                | exact K0 _ _ ((congrArg Prod.fst (cl_1 x6 x15)).trans (body_3 (by omega) j50 n50)) n50 Se142
                | exact K0 _ _ (cl_2 x6 x15) (by omega) Se142
                | exact K0 _ _ (cl_3 x6) (by omega) Se142
            · skip
              have Se94 := CL_d Sl85 hz se94 te94
              show ab_X (d + 32) mX8_readClause 97 [(2, .int (iI 0)), (1, .int (iI (sg T z (lk T z (lk T z p + 1) + 1)))), (0, .ref 10)] [] e94 _
              refine ab_aload_n (k := 2) dX8_readClause_97 rfl rfl ?_
              refine z_getP (b := 11) dX8_readClause_98 fX8_12 rfl rfl rfl ?_
              refine z_getI dX8_readClause_101 fX8_27 rfl (Or.inl rfl) ?_
              have b7 := zv_R e94 11 3
              refine ab_istore_n (ls' := [(3, .int (iI (zv e94 11 3))), (2, .int (iI 0)), (1, .int (iI (sg T z (lk T z (lk T z p + 1) + 1)))), (0, .ref 10)]) dX8_readClause_104 rfl (by decide) rfl ?_
              refine ab_aload_n (k := 3) dX8_readClause_105 rfl rfl ?_
              refine z_getP (b := 11) dX8_readClause_106 fX8_12 rfl rfl rfl ?_
              refine z_bipush dX8_readClause_109 (by decide) ?_
              refine z_iconst dX8_readClause_111 ?_
              refine ab_callV (As := [.int (iI 12), .int (iI 0)]) (rest := []) dX8_readClause_112 lX8_59 rfl (Nat.le_of_ble_eq_true rfl) (Nat.le_of_ble_eq_true rfl) rfl ?_
              refine c_add11d Se94.2.2 (fun e112 se112 Ce112 => ?_)
              have Se112 := CD_add Se94 se112 Ce112
              show ab_X (d + 32) mX8_readClause 115 [(3, .int (iI (zv e94 11 3))), (2, .int (iI 0)), (1, .int (iI (sg T z (lk T z (lk T z p + 1) + 1)))), (0, .ref 10)] [] e112 _
              refine ab_aload_n (k := 3) dX8_readClause_115 rfl rfl ?_
              refine z_iconst dX8_readClause_116 ?_
              refine ab_callV (As := [.int (iI 0)]) (rest := []) dX8_readClause_117 lX8_51 rfl (Nat.le_of_ble_eq_true rfl) (Nat.le_of_ble_eq_true rfl) rfl ?_
              refine (d_readSum (d := d + 24) (D := 0) hz) h0 _ _ _ Se112 (fun e117 Se117 => ?_)
              show ab_X (d + 32) mX8_readClause 120 [(3, .int (iI (zv e94 11 3))), (2, .int (iI 0)), (1, .int (iI (sg T z (lk T z (lk T z p + 1) + 1)))), (0, .ref 10)] [] e117 _
              refine ab_aload_n (k := 3) dX8_readClause_120 rfl rfl ?_
              refine z_getP (b := 11) dX8_readClause_121 fX8_12 rfl rfl rfl ?_
              refine z_bipush dX8_readClause_124 (by decide) ?_
              refine z_iconst dX8_readClause_126 ?_
              refine ab_callV (As := [.int (iI 13), .int (iI 0)]) (rest := []) dX8_readClause_127 lX8_59 rfl (Nat.le_of_ble_eq_true rfl) (Nat.le_of_ble_eq_true rfl) rfl ?_
              refine c_add11d Se117.2.2 (fun e127 se127 Ce127 => ?_)
              have Se127 := CD_add Se117 se127 Ce127
              show ab_X (d + 32) mX8_readClause 130 [(3, .int (iI (zv e94 11 3))), (2, .int (iI 0)), (1, .int (iI (sg T z (lk T z (lk T z p + 1) + 1)))), (0, .ref 10)] [] e127 _
              refine ab_aload_n (k := 3) dX8_readClause_130 rfl rfl ?_
              refine z_getP (b := 11) dX8_readClause_131 fX8_12 rfl rfl rfl ?_
              refine ab_iload_n (k := 0) dX8_readClause_134 rfl rfl ?_
              refine ab_aload_n (k := 3) dX8_readClause_135 rfl rfl ?_
              refine z_getP (b := 11) dX8_readClause_136 fX8_12 rfl rfl rfl ?_
              refine z_getI dX8_readClause_139 fX8_27 rfl (Or.inl rfl) ?_
              have b8 := zv_R e127 11 3
              refine ab_callV (As := [.int (iI (zv e94 11 3)), .int (iI (zv e127 11 3))]) (rest := []) dX8_readClause_142 lX8_67 rfl (Nat.le_of_ble_eq_true rfl) (Nat.le_of_ble_eq_true rfl) rfl ?_
              refine c_setDetD (by omega) Se127.2.2 (fun e142 se142 Ce142 => ?_)
              have Se142 := CD_add Se127 se142 Ce142
              show ab_X (d + 32) mX8_readClause 145 [(3, .int (iI (zv e94 11 3))), (2, .int (iI 0)), (1, .int (iI (sg T z (lk T z (lk T z p + 1) + 1)))), (0, .ref 10)] [] e142 _
              refine z_vret dX8_readClause_145 rfl ?_
              first
              | exact K0 _ _ ((congrArg Prod.fst (cl_1 x6 x15)).trans ((congrArg Prod.fst (body_1 (p := (lk T z (lk T z p + 1) + 1)) (by omega) j85)).trans (tail_2 x94 j117 n117))) n117 Se142
              | exact K0 _ _ ((congrArg Prod.fst (cl_1 x6 x15)).trans ((congrArg Prod.fst (body_5 (p := (lk T z (lk T z p + 1) + 1)) (by omega) j50 (by omega) j85)).trans (tail_2 x94 j117 n117))) n117 Se142
              | exact K0 _ _ ((congrArg Prod.fst (cl_1 x6 x15)).trans ((congrArg Prod.fst (body_1 (p := (lk T z (lk T z p + 1) + 1)) (by omega) j85)).trans (tail_3 x94))) (by omega) Se142
              | exact K0 _ _ ((congrArg Prod.fst (cl_1 x6 x15)).trans ((congrArg Prod.fst (body_5 (p := (lk T z (lk T z p + 1) + 1)) (by omega) j50 (by omega) j85)).trans (tail_3 x94))) (by omega) Se142
              | exact K0 _ _ ((congrArg Prod.fst (cl_1 x6 x15)).trans (body_2 (by omega) j85 n85)) n85 Se142
              | exact K0 _ _ ((congrArg Prod.fst (cl_1 x6 x15)).trans (body_6 (by omega) j50 (by omega) j85 n85)) n85 Se142
              | exact K0 _ _ ((congrArg Prod.fst (cl_1 x6 x15)).trans (body_3 (by omega) j50 n50)) n50 Se142
              | exact K0 _ _ (cl_2 x6 x15) (by omega) Se142
              | exact K0 _ _ (cl_3 x6) (by omega) Se142
          · skip
            show ab_X (d + 32) mX8_readClause 88 [(2, .int (iI 0)), (1, .int (iI (sg T z (lk T z (lk T z p + 1) + 1)))), (0, .ref 10)] [] e85 _
            refine ab_aload_n (k := 2) dX8_readClause_88 rfl rfl ?_
            refine z_getP (b := 1) dX8_readClause_89 fX8_18 rfl rfl rfl ?_
            refine z_bipush dX8_readClause_92 (by decide) ?_
            refine ab_callV (As := [.int (iI 63)]) (rest := []) dX8_readClause_94 lX8_47 rfl (Nat.le_of_ble_eq_true rfl) (Nat.le_of_ble_eq_true rfl) rfl ?_
            refine c_dexpect hz (by decide) Se85.2.1 (fun e94 se94 te94 => ?_)
            have Se94 := CD_d Se85 se94 te94
            show ab_X (d + 32) mX8_readClause 97 [(2, .int (iI 0)), (1, .int (iI (sg T z (lk T z (lk T z p + 1) + 1)))), (0, .ref 10)] [] e94 _
            refine ab_aload_n (k := 2) dX8_readClause_97 rfl rfl ?_
            refine z_getP (b := 11) dX8_readClause_98 fX8_12 rfl rfl rfl ?_
            refine z_getI dX8_readClause_101 fX8_27 rfl (Or.inl rfl) ?_
            have b9 := zv_R e94 11 3
            refine ab_istore_n (ls' := [(3, .int (iI (zv e94 11 3))), (2, .int (iI 0)), (1, .int (iI (sg T z (lk T z (lk T z p + 1) + 1)))), (0, .ref 10)]) dX8_readClause_104 rfl (by decide) rfl ?_
            refine ab_aload_n (k := 3) dX8_readClause_105 rfl rfl ?_
            refine z_getP (b := 11) dX8_readClause_106 fX8_12 rfl rfl rfl ?_
            refine z_bipush dX8_readClause_109 (by decide) ?_
            refine z_iconst dX8_readClause_111 ?_
            refine ab_callV (As := [.int (iI 12), .int (iI 0)]) (rest := []) dX8_readClause_112 lX8_59 rfl (Nat.le_of_ble_eq_true rfl) (Nat.le_of_ble_eq_true rfl) rfl ?_
            refine c_add11d Se94.2.2 (fun e112 se112 Ce112 => ?_)
            have Se112 := CD_add Se94 se112 Ce112
            show ab_X (d + 32) mX8_readClause 115 [(3, .int (iI (zv e94 11 3))), (2, .int (iI 0)), (1, .int (iI (sg T z (lk T z (lk T z p + 1) + 1)))), (0, .ref 10)] [] e112 _
            refine ab_aload_n (k := 3) dX8_readClause_115 rfl rfl ?_
            refine z_iconst dX8_readClause_116 ?_
            refine ab_callV (As := [.int (iI 0)]) (rest := []) dX8_readClause_117 lX8_51 rfl (Nat.le_of_ble_eq_true rfl) (Nat.le_of_ble_eq_true rfl) rfl ?_
            refine (d_readSum (d := d + 24) (D := 0) hz) h0 _ _ _ Se112 (fun e117 Se117 => ?_)
            show ab_X (d + 32) mX8_readClause 120 [(3, .int (iI (zv e94 11 3))), (2, .int (iI 0)), (1, .int (iI (sg T z (lk T z (lk T z p + 1) + 1)))), (0, .ref 10)] [] e117 _
            refine ab_aload_n (k := 3) dX8_readClause_120 rfl rfl ?_
            refine z_getP (b := 11) dX8_readClause_121 fX8_12 rfl rfl rfl ?_
            refine z_bipush dX8_readClause_124 (by decide) ?_
            refine z_iconst dX8_readClause_126 ?_
            refine ab_callV (As := [.int (iI 13), .int (iI 0)]) (rest := []) dX8_readClause_127 lX8_59 rfl (Nat.le_of_ble_eq_true rfl) (Nat.le_of_ble_eq_true rfl) rfl ?_
            refine c_add11d Se117.2.2 (fun e127 se127 Ce127 => ?_)
            have Se127 := CD_add Se117 se127 Ce127
            show ab_X (d + 32) mX8_readClause 130 [(3, .int (iI (zv e94 11 3))), (2, .int (iI 0)), (1, .int (iI (sg T z (lk T z (lk T z p + 1) + 1)))), (0, .ref 10)] [] e127 _
            refine ab_aload_n (k := 3) dX8_readClause_130 rfl rfl ?_
            refine z_getP (b := 11) dX8_readClause_131 fX8_12 rfl rfl rfl ?_
            refine ab_iload_n (k := 0) dX8_readClause_134 rfl rfl ?_
            refine ab_aload_n (k := 3) dX8_readClause_135 rfl rfl ?_
            refine z_getP (b := 11) dX8_readClause_136 fX8_12 rfl rfl rfl ?_
            refine z_getI dX8_readClause_139 fX8_27 rfl (Or.inl rfl) ?_
            have b10 := zv_R e127 11 3
            refine ab_callV (As := [.int (iI (zv e94 11 3)), .int (iI (zv e127 11 3))]) (rest := []) dX8_readClause_142 lX8_67 rfl (Nat.le_of_ble_eq_true rfl) (Nat.le_of_ble_eq_true rfl) rfl ?_
            refine c_setDetD (by omega) Se127.2.2 (fun e142 se142 Ce142 => ?_)
            have Se142 := CD_add Se127 se142 Ce142
            show ab_X (d + 32) mX8_readClause 145 [(3, .int (iI (zv e94 11 3))), (2, .int (iI 0)), (1, .int (iI (sg T z (lk T z (lk T z p + 1) + 1)))), (0, .ref 10)] [] e142 _
            refine z_vret dX8_readClause_145 rfl ?_
            first
            | exact K0 _ _ ((congrArg Prod.fst (cl_1 x6 x15)).trans ((congrArg Prod.fst (body_1 (p := (lk T z (lk T z p + 1) + 1)) (by omega) j85)).trans (tail_2 x94 j117 n117))) n117 Se142
            | exact K0 _ _ ((congrArg Prod.fst (cl_1 x6 x15)).trans ((congrArg Prod.fst (body_5 (p := (lk T z (lk T z p + 1) + 1)) (by omega) j50 (by omega) j85)).trans (tail_2 x94 j117 n117))) n117 Se142
            | exact K0 _ _ ((congrArg Prod.fst (cl_1 x6 x15)).trans ((congrArg Prod.fst (body_1 (p := (lk T z (lk T z p + 1) + 1)) (by omega) j85)).trans (tail_3 x94))) (by omega) Se142
            | exact K0 _ _ ((congrArg Prod.fst (cl_1 x6 x15)).trans ((congrArg Prod.fst (body_5 (p := (lk T z (lk T z p + 1) + 1)) (by omega) j50 (by omega) j85)).trans (tail_3 x94))) (by omega) Se142
            | exact K0 _ _ ((congrArg Prod.fst (cl_1 x6 x15)).trans (body_2 (by omega) j85 n85)) n85 Se142
            | exact K0 _ _ ((congrArg Prod.fst (cl_1 x6 x15)).trans (body_6 (by omega) j50 (by omega) j85 n85)) n85 Se142
            | exact K0 _ _ ((congrArg Prod.fst (cl_1 x6 x15)).trans (body_3 (by omega) j50 n50)) n50 Se142
            | exact K0 _ _ (cl_2 x6 x15) (by omega) Se142
            | exact K0 _ _ (cl_3 x6) (by omega) Se142
        · skip
          refine z_iconst dX8_readClause_38 ?_
          refine ab_goto (tgt := 43) dX8_readClause_39 (by decide) ?_
          refine ab_istore_n (ls' := [(2, .int (iI 1)), (1, .int (iI (sg T z (lk T z (lk T z p + 1) + 1)))), (0, .ref 10)]) dX8_readClause_43 rfl (by decide) rfl ?_
          refine ab_iload_n (k := 0) dX8_readClause_44 rfl rfl ?_
          refine z_if_eq (tgt := 53) dX8_readClause_45 (by decide) (by decide) (fun c45 => absurd c45 (by decide)) (fun _ => ?_)
          refine ab_aload_n (k := 2) dX8_readClause_48 rfl rfl ?_
          refine z_iconst dX8_readClause_49 ?_
          refine ab_callV (As := [.int (iI 0)]) (rest := []) dX8_readClause_50 lX8_51 rfl (Nat.le_of_ble_eq_true rfl) (Nat.le_of_ble_eq_true rfl) rfl ?_
          refine hS h0 _ _ _ _ Sl22 (fun l50 p50 c50 j50 b50 Sl50 => ?_) (fun e50 w50 j50 n50 Se50 => ?_)
          · skip
            have r50 := Sl50.2.1.2.2.2.2
            show ab_X (d + 32) mX8_readClause 53 [(2, .int (iI 1)), (1, .int (iI (sg T z (lk T z (lk T z p + 1) + 1)))), (0, .ref 10)] [] l50 _
            refine ab_iload_n (k := 0) dX8_readClause_53 rfl rfl ?_
            refine z_if_eq (tgt := 82) dX8_readClause_54 (by decide) (by decide) (fun c54 => absurd c54 (by decide)) (fun _ => ?_)
            refine ab_aload_n (k := 2) dX8_readClause_57 rfl rfl ?_
            refine z_getP (b := 1) dX8_readClause_58 fX8_18 rfl rfl rfl ?_
            refine ab_callV (As := []) (rest := []) dX8_readClause_61 lX8_34 rfl (Nat.le_of_ble_eq_true rfl) (Nat.le_of_ble_eq_true rfl) rfl ?_
            refine c_tlook ht Sl50.2.1 (fun l61 sl61 tl61 => ?_)
            have k61 := lk_ge T z p50
            have Sl61 := CL_t Sl50 sl61 tl61 (by omega)
            have y61 := sg_b ht p50
            show ab_X (d + 32) mX8_readClause 64 [(2, .int (iI 1)), (1, .int (iI (sg T z (lk T z (lk T z p + 1) + 1)))), (0, .ref 10)] [.int (iI (sg T z p50))] l61 _
            refine ab_callS (As := [.int (iI (sg T z p50))]) (rest := []) dX8_readClause_64 lX8_55 (Nat.le_of_ble_eq_true rfl) (Nat.le_of_ble_eq_true rfl) rfl ?_
            refine c_comparison (by omega) ?_
            have u64 := cmpo_b (sg T z p50)
            show ab_X (d + 32) mX8_readClause 67 [(2, .int (iI 1)), (1, .int (iI (sg T z (lk T z (lk T z p + 1) + 1)))), (0, .ref 10)] [.int (iI (cmpo (sg T z p50)))] l61 _
            refine z_iconst dX8_readClause_67 ?_
            refine z_icmp_ne (tgt := 82) dX8_readClause_68 (by decide) (by omega) (by decide) (fun c68 => ?_) (fun c68 => ?_)
            · skip
              refine ab_aload_n (k := 2) dX8_readClause_82 rfl rfl ?_
              refine z_iconst dX8_readClause_83 ?_
              refine ab_iload_n (k := 0) dX8_readClause_84 rfl rfl ?_
              refine ab_callV (As := [.int (iI 0), .int (iI 1)]) (rest := []) dX8_readClause_85 lX8_63 rfl (Nat.le_of_ble_eq_true rfl) (Nat.le_of_ble_eq_true rfl) rfl ?_
              refine hC1 h0 _ _ _ _ Sl61 (fun l85 p85 c85 j85 b85 Sl85 => ?_) (fun e85 w85 j85 n85 Se85 => ?_)
              · skip
                have r85 := Sl85.2.1.2.2.2.2
                show ab_X (d + 32) mX8_readClause 88 [(2, .int (iI 1)), (1, .int (iI (sg T z (lk T z (lk T z p + 1) + 1)))), (0, .ref 10)] [] l85 _
                refine ab_aload_n (k := 2) dX8_readClause_88 rfl rfl ?_
                refine z_getP (b := 1) dX8_readClause_89 fX8_18 rfl rfl rfl ?_
                refine z_bipush dX8_readClause_92 (by decide) ?_
                refine ab_callV (As := [.int (iI 63)]) (rest := []) dX8_readClause_94 lX8_47 rfl (Nat.le_of_ble_eq_true rfl) (Nat.le_of_ble_eq_true rfl) rfl ?_
                have k94 := lk_ge T z p85
                refine c_texpect ht (by decide) Sl85.2.1 (fun x94 l94 sl94 tl94 => ?_) (fun x94 e94 se94 te94 => ?_)
                · skip
                  have Sl94 := CL_t Sl85 sl94 tl94 (by omega)
                  have b94 := Sl94.2.1.2.2.2.2
                  show ab_X (d + 32) mX8_readClause 97 [(2, .int (iI 1)), (1, .int (iI (sg T z (lk T z (lk T z p + 1) + 1)))), (0, .ref 10)] [] l94 _
                  refine ab_aload_n (k := 2) dX8_readClause_97 rfl rfl ?_
                  refine z_getP (b := 11) dX8_readClause_98 fX8_12 rfl rfl rfl ?_
                  refine z_getI dX8_readClause_101 fX8_27 rfl (Or.inl rfl) ?_
                  refine z_is (y := ((((c ++ c50) ++ c85).length : Nat) : Int)) Sl94.2.2.2.1 ?_
                  refine ab_istore_n (ls' := [(3, .int (iI ((((c ++ c50) ++ c85).length : Nat) : Int))), (2, .int (iI 1)), (1, .int (iI (sg T z (lk T z (lk T z p + 1) + 1)))), (0, .ref 10)]) dX8_readClause_104 rfl (by decide) rfl ?_
                  refine ab_aload_n (k := 3) dX8_readClause_105 rfl rfl ?_
                  refine z_getP (b := 11) dX8_readClause_106 fX8_12 rfl rfl rfl ?_
                  refine z_bipush dX8_readClause_109 (by decide) ?_
                  refine z_iconst dX8_readClause_111 ?_
                  refine ab_callV (As := [.int (iI 12), .int (iI 0)]) (rest := []) dX8_readClause_112 lX8_59 rfl (Nat.le_of_ble_eq_true rfl) (Nat.le_of_ble_eq_true rfl) rfl ?_
                  have q112 : (((c ++ c50) ++ c85)).length + 1 ≤ (lk T z p85 + 1) := by (try simp only [List.length_append, List.length_cons, List.length_nil]); omega
                  have r112 := Sl94.2.1.2.2.2.2
                  refine c_add11 Sl94.2.2.2 (by omega) (by decide) (by decide) (fun l112 sl112 Cl112 => ?_)
                  have Sl112 := CL_add Sl94 q112 sl112 Cl112
                  show ab_X (d + 32) mX8_readClause 115 [(3, .int (iI ((((c ++ c50) ++ c85).length : Nat) : Int))), (2, .int (iI 1)), (1, .int (iI (sg T z (lk T z (lk T z p + 1) + 1)))), (0, .ref 10)] [] l112 _
                  refine ab_aload_n (k := 3) dX8_readClause_115 rfl rfl ?_
                  refine z_iconst dX8_readClause_116 ?_
                  refine ab_callV (As := [.int (iI 0)]) (rest := []) dX8_readClause_117 lX8_51 rfl (Nat.le_of_ble_eq_true rfl) (Nat.le_of_ble_eq_true rfl) rfl ?_
                  refine hS h0 _ _ _ _ Sl112 (fun l117 p117 c117 j117 b117 Sl117 => ?_) (fun e117 w117 j117 n117 Se117 => ?_)
                  · skip
                    have r117 := Sl117.2.1.2.2.2.2
                    show ab_X (d + 32) mX8_readClause 120 [(3, .int (iI ((((c ++ c50) ++ c85).length : Nat) : Int))), (2, .int (iI 1)), (1, .int (iI (sg T z (lk T z (lk T z p + 1) + 1)))), (0, .ref 10)] [] l117 _
                    refine ab_aload_n (k := 3) dX8_readClause_120 rfl rfl ?_
                    refine z_getP (b := 11) dX8_readClause_121 fX8_12 rfl rfl rfl ?_
                    refine z_bipush dX8_readClause_124 (by decide) ?_
                    refine z_iconst dX8_readClause_126 ?_
                    refine ab_callV (As := [.int (iI 13), .int (iI 0)]) (rest := []) dX8_readClause_127 lX8_59 rfl (Nat.le_of_ble_eq_true rfl) (Nat.le_of_ble_eq_true rfl) rfl ?_
                    have q127 : (((((c ++ c50) ++ c85) ++ [(12, 0)]) ++ c117)).length + 1 ≤ p117 := by (try simp only [List.length_append, List.length_cons, List.length_nil]); omega
                    have r127 := Sl117.2.1.2.2.2.2
                    refine c_add11 Sl117.2.2.2 (by omega) (by decide) (by decide) (fun l127 sl127 Cl127 => ?_)
                    have Sl127 := CL_add Sl117 q127 sl127 Cl127
                    show ab_X (d + 32) mX8_readClause 130 [(3, .int (iI ((((c ++ c50) ++ c85).length : Nat) : Int))), (2, .int (iI 1)), (1, .int (iI (sg T z (lk T z (lk T z p + 1) + 1)))), (0, .ref 10)] [] l127 _
                    refine ab_aload_n (k := 3) dX8_readClause_130 rfl rfl ?_
                    refine z_getP (b := 11) dX8_readClause_131 fX8_12 rfl rfl rfl ?_
                    refine ab_iload_n (k := 0) dX8_readClause_134 rfl rfl ?_
                    refine ab_aload_n (k := 3) dX8_readClause_135 rfl rfl ?_
                    refine z_getP (b := 11) dX8_readClause_136 fX8_12 rfl rfl rfl ?_
                    refine z_getI dX8_readClause_139 fX8_27 rfl (Or.inl rfl) ?_
                    refine z_is (y := (((((((c ++ c50) ++ c85) ++ [(12, 0)]) ++ c117) ++ [(13, 0)]).length : Nat) : Int)) Sl127.2.2.2.1 ?_
                    refine ab_callV (As := [.int (iI ((((c ++ c50) ++ c85).length : Nat) : Int)), .int (iI (((((((c ++ c50) ++ c85) ++ [(12, 0)]) ++ c117) ++ [(13, 0)]).length : Nat) : Int))]) (rest := []) dX8_readClause_142 lX8_67 rfl (Nat.le_of_ble_eq_true rfl) (Nat.le_of_ble_eq_true rfl) rfl ?_
                    have eL : (((((c ++ c50) ++ c85) ++ [(12, 0)]) ++ c117) ++ [(13, 0)]) = (((c ++ c50) ++ c85) ++ (12, 0) :: (c117 ++ [(13, 0)])) := by simp only [List.append_assoc, List.cons_append, List.nil_append]
                    have Cx : CCr 11 l127 (((c ++ c50) ++ c85) ++ (12, 0) :: (c117 ++ [(13, 0)])) := by rw [← eL]; exact Sl127.2.2.2
                    have q142 := Sl127.2.2.1
                    have qq142 := Sl127.2.1.2.2.2.2
                    refine c_setDet Cx rfl (by rw [← eL]; omega) (by omega) (fun l142 sl142 Cl142 => ?_)
                    have Sl142 := CL_set Sl127 (by simp only [List.length_append, List.length_cons, List.length_nil]; omega) sl142 Cl142
                    show ab_X (d + 32) mX8_readClause 145 [(3, .int (iI ((((c ++ c50) ++ c85).length : Nat) : Int))), (2, .int (iI 1)), (1, .int (iI (sg T z (lk T z (lk T z p + 1) + 1)))), (0, .ref 10)] [] l142 _
                    refine z_vret dX8_readClause_145 rfl ?_
                    first
                    | (have eK := (cl_1 (o1 := c.length) x6 x15).trans ((body_1 (p := (lk T z (lk T z p + 1) + 1)) (by omega) j85).trans (tail_1 x94 j117))
                       refine K1 _ _ _ eK (by simp only [List.length_append, List.length_cons, List.length_nil]; omega) ?_
                       have eV : ((c.length + (c85).length + c117.length + 2 : Nat) : Int) = (((((((c ++ c50) ++ c85) ++ [(12, 0)]) ++ c117) ++ [(13, 0)]).length : Nat) : Int) := by simp only [List.length_append, List.length_cons, List.length_nil]; omega
                       rw [eV]
                       simp only [List.append_assoc] at Sl142 ⊢
                       exact Sl142)
                    | (have eK := (cl_1 (o1 := c.length) x6 x15).trans ((body_5 (p := (lk T z (lk T z p + 1) + 1)) (by omega) j50 (by omega) j85).trans (tail_1 x94 j117))
                       refine K1 _ _ _ eK (by simp only [List.length_append, List.length_cons, List.length_nil]; omega) ?_
                       have eV : ((c.length + (c50 ++ c85).length + c117.length + 2 : Nat) : Int) = (((((((c ++ c50) ++ c85) ++ [(12, 0)]) ++ c117) ++ [(13, 0)]).length : Nat) : Int) := by simp only [List.length_append, List.length_cons, List.length_nil]; omega
                       rw [eV]
                       simp only [List.append_assoc] at Sl142 ⊢
                       exact Sl142)
                  · skip
                    show ab_X (d + 32) mX8_readClause 120 [(3, .int (iI ((((c ++ c50) ++ c85).length : Nat) : Int))), (2, .int (iI 1)), (1, .int (iI (sg T z (lk T z (lk T z p + 1) + 1)))), (0, .ref 10)] [] e117 _
                    refine ab_aload_n (k := 3) dX8_readClause_120 rfl rfl ?_
                    refine z_getP (b := 11) dX8_readClause_121 fX8_12 rfl rfl rfl ?_
                    refine z_bipush dX8_readClause_124 (by decide) ?_
                    refine z_iconst dX8_readClause_126 ?_
                    refine ab_callV (As := [.int (iI 13), .int (iI 0)]) (rest := []) dX8_readClause_127 lX8_59 rfl (Nat.le_of_ble_eq_true rfl) (Nat.le_of_ble_eq_true rfl) rfl ?_
                    refine c_add11d Se117.2.2 (fun e127 se127 Ce127 => ?_)
                    have Se127 := CD_add Se117 se127 Ce127
                    show ab_X (d + 32) mX8_readClause 130 [(3, .int (iI ((((c ++ c50) ++ c85).length : Nat) : Int))), (2, .int (iI 1)), (1, .int (iI (sg T z (lk T z (lk T z p + 1) + 1)))), (0, .ref 10)] [] e127 _
                    refine ab_aload_n (k := 3) dX8_readClause_130 rfl rfl ?_
                    refine z_getP (b := 11) dX8_readClause_131 fX8_12 rfl rfl rfl ?_
                    refine ab_iload_n (k := 0) dX8_readClause_134 rfl rfl ?_
                    refine ab_aload_n (k := 3) dX8_readClause_135 rfl rfl ?_
                    refine z_getP (b := 11) dX8_readClause_136 fX8_12 rfl rfl rfl ?_
                    refine z_getI dX8_readClause_139 fX8_27 rfl (Or.inl rfl) ?_
                    have b11 := zv_R e127 11 3
                    refine ab_callV (As := [.int (iI ((((c ++ c50) ++ c85).length : Nat) : Int)), .int (iI (zv e127 11 3))]) (rest := []) dX8_readClause_142 lX8_67 rfl (Nat.le_of_ble_eq_true rfl) (Nat.le_of_ble_eq_true rfl) rfl ?_
                    refine c_setDetD (by omega) Se127.2.2 (fun e142 se142 Ce142 => ?_)
                    have Se142 := CD_add Se127 se142 Ce142
                    show ab_X (d + 32) mX8_readClause 145 [(3, .int (iI ((((c ++ c50) ++ c85).length : Nat) : Int))), (2, .int (iI 1)), (1, .int (iI (sg T z (lk T z (lk T z p + 1) + 1)))), (0, .ref 10)] [] e142 _
                    refine z_vret dX8_readClause_145 rfl ?_
                    first
                    | exact K0 _ _ ((congrArg Prod.fst (cl_1 x6 x15)).trans ((congrArg Prod.fst (body_1 (p := (lk T z (lk T z p + 1) + 1)) (by omega) j85)).trans (tail_2 x94 j117 n117))) n117 Se142
                    | exact K0 _ _ ((congrArg Prod.fst (cl_1 x6 x15)).trans ((congrArg Prod.fst (body_5 (p := (lk T z (lk T z p + 1) + 1)) (by omega) j50 (by omega) j85)).trans (tail_2 x94 j117 n117))) n117 Se142
                    | exact K0 _ _ ((congrArg Prod.fst (cl_1 x6 x15)).trans ((congrArg Prod.fst (body_1 (p := (lk T z (lk T z p + 1) + 1)) (by omega) j85)).trans (tail_3 x94))) (by omega) Se142
                    | exact K0 _ _ ((congrArg Prod.fst (cl_1 x6 x15)).trans ((congrArg Prod.fst (body_5 (p := (lk T z (lk T z p + 1) + 1)) (by omega) j50 (by omega) j85)).trans (tail_3 x94))) (by omega) Se142
                    | exact K0 _ _ ((congrArg Prod.fst (cl_1 x6 x15)).trans (body_2 (by omega) j85 n85)) n85 Se142
                    | exact K0 _ _ ((congrArg Prod.fst (cl_1 x6 x15)).trans (body_6 (by omega) j50 (by omega) j85 n85)) n85 Se142
                    | exact K0 _ _ ((congrArg Prod.fst (cl_1 x6 x15)).trans (body_3 (by omega) j50 n50)) n50 Se142
                    | exact K0 _ _ (cl_2 x6 x15) (by omega) Se142
                    | exact K0 _ _ (cl_3 x6) (by omega) Se142
                · skip
                  have Se94 := CL_d Sl85 hz se94 te94
                  show ab_X (d + 32) mX8_readClause 97 [(2, .int (iI 1)), (1, .int (iI (sg T z (lk T z (lk T z p + 1) + 1)))), (0, .ref 10)] [] e94 _
                  refine ab_aload_n (k := 2) dX8_readClause_97 rfl rfl ?_
                  refine z_getP (b := 11) dX8_readClause_98 fX8_12 rfl rfl rfl ?_
                  refine z_getI dX8_readClause_101 fX8_27 rfl (Or.inl rfl) ?_
                  have b12 := zv_R e94 11 3
                  refine ab_istore_n (ls' := [(3, .int (iI (zv e94 11 3))), (2, .int (iI 1)), (1, .int (iI (sg T z (lk T z (lk T z p + 1) + 1)))), (0, .ref 10)]) dX8_readClause_104 rfl (by decide) rfl ?_
                  refine ab_aload_n (k := 3) dX8_readClause_105 rfl rfl ?_
                  refine z_getP (b := 11) dX8_readClause_106 fX8_12 rfl rfl rfl ?_
                  refine z_bipush dX8_readClause_109 (by decide) ?_
                  refine z_iconst dX8_readClause_111 ?_
                  refine ab_callV (As := [.int (iI 12), .int (iI 0)]) (rest := []) dX8_readClause_112 lX8_59 rfl (Nat.le_of_ble_eq_true rfl) (Nat.le_of_ble_eq_true rfl) rfl ?_
                  refine c_add11d Se94.2.2 (fun e112 se112 Ce112 => ?_)
                  have Se112 := CD_add Se94 se112 Ce112
                  show ab_X (d + 32) mX8_readClause 115 [(3, .int (iI (zv e94 11 3))), (2, .int (iI 1)), (1, .int (iI (sg T z (lk T z (lk T z p + 1) + 1)))), (0, .ref 10)] [] e112 _
                  refine ab_aload_n (k := 3) dX8_readClause_115 rfl rfl ?_
                  refine z_iconst dX8_readClause_116 ?_
                  refine ab_callV (As := [.int (iI 0)]) (rest := []) dX8_readClause_117 lX8_51 rfl (Nat.le_of_ble_eq_true rfl) (Nat.le_of_ble_eq_true rfl) rfl ?_
                  refine (d_readSum (d := d + 24) (D := 0) hz) h0 _ _ _ Se112 (fun e117 Se117 => ?_)
                  show ab_X (d + 32) mX8_readClause 120 [(3, .int (iI (zv e94 11 3))), (2, .int (iI 1)), (1, .int (iI (sg T z (lk T z (lk T z p + 1) + 1)))), (0, .ref 10)] [] e117 _
                  refine ab_aload_n (k := 3) dX8_readClause_120 rfl rfl ?_
                  refine z_getP (b := 11) dX8_readClause_121 fX8_12 rfl rfl rfl ?_
                  refine z_bipush dX8_readClause_124 (by decide) ?_
                  refine z_iconst dX8_readClause_126 ?_
                  refine ab_callV (As := [.int (iI 13), .int (iI 0)]) (rest := []) dX8_readClause_127 lX8_59 rfl (Nat.le_of_ble_eq_true rfl) (Nat.le_of_ble_eq_true rfl) rfl ?_
                  refine c_add11d Se117.2.2 (fun e127 se127 Ce127 => ?_)
                  have Se127 := CD_add Se117 se127 Ce127
                  show ab_X (d + 32) mX8_readClause 130 [(3, .int (iI (zv e94 11 3))), (2, .int (iI 1)), (1, .int (iI (sg T z (lk T z (lk T z p + 1) + 1)))), (0, .ref 10)] [] e127 _
                  refine ab_aload_n (k := 3) dX8_readClause_130 rfl rfl ?_
                  refine z_getP (b := 11) dX8_readClause_131 fX8_12 rfl rfl rfl ?_
                  refine ab_iload_n (k := 0) dX8_readClause_134 rfl rfl ?_
                  refine ab_aload_n (k := 3) dX8_readClause_135 rfl rfl ?_
                  refine z_getP (b := 11) dX8_readClause_136 fX8_12 rfl rfl rfl ?_
                  refine z_getI dX8_readClause_139 fX8_27 rfl (Or.inl rfl) ?_
                  have b13 := zv_R e127 11 3
                  refine ab_callV (As := [.int (iI (zv e94 11 3)), .int (iI (zv e127 11 3))]) (rest := []) dX8_readClause_142 lX8_67 rfl (Nat.le_of_ble_eq_true rfl) (Nat.le_of_ble_eq_true rfl) rfl ?_
                  refine c_setDetD (by omega) Se127.2.2 (fun e142 se142 Ce142 => ?_)
                  have Se142 := CD_add Se127 se142 Ce142
                  show ab_X (d + 32) mX8_readClause 145 [(3, .int (iI (zv e94 11 3))), (2, .int (iI 1)), (1, .int (iI (sg T z (lk T z (lk T z p + 1) + 1)))), (0, .ref 10)] [] e142 _
                  refine z_vret dX8_readClause_145 rfl ?_
                  first
                  | exact K0 _ _ ((congrArg Prod.fst (cl_1 x6 x15)).trans ((congrArg Prod.fst (body_1 (p := (lk T z (lk T z p + 1) + 1)) (by omega) j85)).trans (tail_2 x94 j117 n117))) n117 Se142
                  | exact K0 _ _ ((congrArg Prod.fst (cl_1 x6 x15)).trans ((congrArg Prod.fst (body_5 (p := (lk T z (lk T z p + 1) + 1)) (by omega) j50 (by omega) j85)).trans (tail_2 x94 j117 n117))) n117 Se142
                  | exact K0 _ _ ((congrArg Prod.fst (cl_1 x6 x15)).trans ((congrArg Prod.fst (body_1 (p := (lk T z (lk T z p + 1) + 1)) (by omega) j85)).trans (tail_3 x94))) (by omega) Se142
                  | exact K0 _ _ ((congrArg Prod.fst (cl_1 x6 x15)).trans ((congrArg Prod.fst (body_5 (p := (lk T z (lk T z p + 1) + 1)) (by omega) j50 (by omega) j85)).trans (tail_3 x94))) (by omega) Se142
                  | exact K0 _ _ ((congrArg Prod.fst (cl_1 x6 x15)).trans (body_2 (by omega) j85 n85)) n85 Se142
                  | exact K0 _ _ ((congrArg Prod.fst (cl_1 x6 x15)).trans (body_6 (by omega) j50 (by omega) j85 n85)) n85 Se142
                  | exact K0 _ _ ((congrArg Prod.fst (cl_1 x6 x15)).trans (body_3 (by omega) j50 n50)) n50 Se142
                  | exact K0 _ _ (cl_2 x6 x15) (by omega) Se142
                  | exact K0 _ _ (cl_3 x6) (by omega) Se142
              · skip
                show ab_X (d + 32) mX8_readClause 88 [(2, .int (iI 1)), (1, .int (iI (sg T z (lk T z (lk T z p + 1) + 1)))), (0, .ref 10)] [] e85 _
                refine ab_aload_n (k := 2) dX8_readClause_88 rfl rfl ?_
                refine z_getP (b := 1) dX8_readClause_89 fX8_18 rfl rfl rfl ?_
                refine z_bipush dX8_readClause_92 (by decide) ?_
                refine ab_callV (As := [.int (iI 63)]) (rest := []) dX8_readClause_94 lX8_47 rfl (Nat.le_of_ble_eq_true rfl) (Nat.le_of_ble_eq_true rfl) rfl ?_
                refine c_dexpect hz (by decide) Se85.2.1 (fun e94 se94 te94 => ?_)
                have Se94 := CD_d Se85 se94 te94
                show ab_X (d + 32) mX8_readClause 97 [(2, .int (iI 1)), (1, .int (iI (sg T z (lk T z (lk T z p + 1) + 1)))), (0, .ref 10)] [] e94 _
                refine ab_aload_n (k := 2) dX8_readClause_97 rfl rfl ?_
                refine z_getP (b := 11) dX8_readClause_98 fX8_12 rfl rfl rfl ?_
                refine z_getI dX8_readClause_101 fX8_27 rfl (Or.inl rfl) ?_
                have b14 := zv_R e94 11 3
                refine ab_istore_n (ls' := [(3, .int (iI (zv e94 11 3))), (2, .int (iI 1)), (1, .int (iI (sg T z (lk T z (lk T z p + 1) + 1)))), (0, .ref 10)]) dX8_readClause_104 rfl (by decide) rfl ?_
                refine ab_aload_n (k := 3) dX8_readClause_105 rfl rfl ?_
                refine z_getP (b := 11) dX8_readClause_106 fX8_12 rfl rfl rfl ?_
                refine z_bipush dX8_readClause_109 (by decide) ?_
                refine z_iconst dX8_readClause_111 ?_
                refine ab_callV (As := [.int (iI 12), .int (iI 0)]) (rest := []) dX8_readClause_112 lX8_59 rfl (Nat.le_of_ble_eq_true rfl) (Nat.le_of_ble_eq_true rfl) rfl ?_
                refine c_add11d Se94.2.2 (fun e112 se112 Ce112 => ?_)
                have Se112 := CD_add Se94 se112 Ce112
                show ab_X (d + 32) mX8_readClause 115 [(3, .int (iI (zv e94 11 3))), (2, .int (iI 1)), (1, .int (iI (sg T z (lk T z (lk T z p + 1) + 1)))), (0, .ref 10)] [] e112 _
                refine ab_aload_n (k := 3) dX8_readClause_115 rfl rfl ?_
                refine z_iconst dX8_readClause_116 ?_
                refine ab_callV (As := [.int (iI 0)]) (rest := []) dX8_readClause_117 lX8_51 rfl (Nat.le_of_ble_eq_true rfl) (Nat.le_of_ble_eq_true rfl) rfl ?_
                refine (d_readSum (d := d + 24) (D := 0) hz) h0 _ _ _ Se112 (fun e117 Se117 => ?_)
                show ab_X (d + 32) mX8_readClause 120 [(3, .int (iI (zv e94 11 3))), (2, .int (iI 1)), (1, .int (iI (sg T z (lk T z (lk T z p + 1) + 1)))), (0, .ref 10)] [] e117 _
                refine ab_aload_n (k := 3) dX8_readClause_120 rfl rfl ?_
                refine z_getP (b := 11) dX8_readClause_121 fX8_12 rfl rfl rfl ?_
                refine z_bipush dX8_readClause_124 (by decide) ?_
                refine z_iconst dX8_readClause_126 ?_
                refine ab_callV (As := [.int (iI 13), .int (iI 0)]) (rest := []) dX8_readClause_127 lX8_59 rfl (Nat.le_of_ble_eq_true rfl) (Nat.le_of_ble_eq_true rfl) rfl ?_
                refine c_add11d Se117.2.2 (fun e127 se127 Ce127 => ?_)
                have Se127 := CD_add Se117 se127 Ce127
                show ab_X (d + 32) mX8_readClause 130 [(3, .int (iI (zv e94 11 3))), (2, .int (iI 1)), (1, .int (iI (sg T z (lk T z (lk T z p + 1) + 1)))), (0, .ref 10)] [] e127 _
                refine ab_aload_n (k := 3) dX8_readClause_130 rfl rfl ?_
                refine z_getP (b := 11) dX8_readClause_131 fX8_12 rfl rfl rfl ?_
                refine ab_iload_n (k := 0) dX8_readClause_134 rfl rfl ?_
                refine ab_aload_n (k := 3) dX8_readClause_135 rfl rfl ?_
                refine z_getP (b := 11) dX8_readClause_136 fX8_12 rfl rfl rfl ?_
                refine z_getI dX8_readClause_139 fX8_27 rfl (Or.inl rfl) ?_
                have b15 := zv_R e127 11 3
                refine ab_callV (As := [.int (iI (zv e94 11 3)), .int (iI (zv e127 11 3))]) (rest := []) dX8_readClause_142 lX8_67 rfl (Nat.le_of_ble_eq_true rfl) (Nat.le_of_ble_eq_true rfl) rfl ?_
                refine c_setDetD (by omega) Se127.2.2 (fun e142 se142 Ce142 => ?_)
                have Se142 := CD_add Se127 se142 Ce142
                show ab_X (d + 32) mX8_readClause 145 [(3, .int (iI (zv e94 11 3))), (2, .int (iI 1)), (1, .int (iI (sg T z (lk T z (lk T z p + 1) + 1)))), (0, .ref 10)] [] e142 _
                refine z_vret dX8_readClause_145 rfl ?_
                first
                | exact K0 _ _ ((congrArg Prod.fst (cl_1 x6 x15)).trans ((congrArg Prod.fst (body_1 (p := (lk T z (lk T z p + 1) + 1)) (by omega) j85)).trans (tail_2 x94 j117 n117))) n117 Se142
                | exact K0 _ _ ((congrArg Prod.fst (cl_1 x6 x15)).trans ((congrArg Prod.fst (body_5 (p := (lk T z (lk T z p + 1) + 1)) (by omega) j50 (by omega) j85)).trans (tail_2 x94 j117 n117))) n117 Se142
                | exact K0 _ _ ((congrArg Prod.fst (cl_1 x6 x15)).trans ((congrArg Prod.fst (body_1 (p := (lk T z (lk T z p + 1) + 1)) (by omega) j85)).trans (tail_3 x94))) (by omega) Se142
                | exact K0 _ _ ((congrArg Prod.fst (cl_1 x6 x15)).trans ((congrArg Prod.fst (body_5 (p := (lk T z (lk T z p + 1) + 1)) (by omega) j50 (by omega) j85)).trans (tail_3 x94))) (by omega) Se142
                | exact K0 _ _ ((congrArg Prod.fst (cl_1 x6 x15)).trans (body_2 (by omega) j85 n85)) n85 Se142
                | exact K0 _ _ ((congrArg Prod.fst (cl_1 x6 x15)).trans (body_6 (by omega) j50 (by omega) j85 n85)) n85 Se142
                | exact K0 _ _ ((congrArg Prod.fst (cl_1 x6 x15)).trans (body_3 (by omega) j50 n50)) n50 Se142
                | exact K0 _ _ (cl_2 x6 x15) (by omega) Se142
                | exact K0 _ _ (cl_3 x6) (by omega) Se142
            · skip
              refine ab_aload_n (k := 2) dX8_readClause_71 rfl rfl ?_
              refine z_getP (b := 11) dX8_readClause_72 fX8_12 rfl rfl rfl ?_
              refine z_bipush dX8_readClause_75 (by decide) ?_
              refine z_iconst dX8_readClause_77 ?_
              refine ab_callV (As := [.int (iI 13), .int (iI 0)]) (rest := []) dX8_readClause_78 lX8_59 rfl (Nat.le_of_ble_eq_true rfl) (Nat.le_of_ble_eq_true rfl) rfl ?_
              have q78 : ((c ++ c50)).length + 1 ≤ (lk T z p50) := by (try simp only [List.length_append, List.length_cons, List.length_nil]); omega
              have r78 := Sl61.2.1.2.2.2.2
              refine c_add11 Sl61.2.2.2 (by omega) (by decide) (by decide) (fun l78 sl78 Cl78 => ?_)
              have Sl78 := CL_add Sl61 q78 sl78 Cl78
              show ab_X (d + 32) mX8_readClause 81 [(2, .int (iI 1)), (1, .int (iI (sg T z (lk T z (lk T z p + 1) + 1)))), (0, .ref 10)] [] l78 _
              refine z_vret dX8_readClause_81 rfl ?_
              simp only [List.append_assoc] at Sl78
              exact K1 _ _ _ ((cl_1 x6 x15).trans (body_4 (by omega) j50 (by omega))) (by simp only [List.length_append, List.length_cons, List.length_nil]; omega) Sl78
          · skip
            show ab_X (d + 32) mX8_readClause 53 [(2, .int (iI 1)), (1, .int (iI (sg T z (lk T z (lk T z p + 1) + 1)))), (0, .ref 10)] [] e50 _
            refine ab_iload_n (k := 0) dX8_readClause_53 rfl rfl ?_
            refine z_if_eq (tgt := 82) dX8_readClause_54 (by decide) (by decide) (fun c54 => absurd c54 (by decide)) (fun _ => ?_)
            refine ab_aload_n (k := 2) dX8_readClause_57 rfl rfl ?_
            refine z_getP (b := 1) dX8_readClause_58 fX8_18 rfl rfl rfl ?_
            refine ab_callV (As := []) (rest := []) dX8_readClause_61 lX8_34 rfl (Nat.le_of_ble_eq_true rfl) (Nat.le_of_ble_eq_true rfl) rfl ?_
            refine c_dlook hz Se50.2.1 (fun e61 se61 te61 => ?_)
            have Se61 := CD_d Se50 se61 te61
            show ab_X (d + 32) mX8_readClause 64 [(2, .int (iI 1)), (1, .int (iI (sg T z (lk T z (lk T z p + 1) + 1)))), (0, .ref 10)] [.int (iI (-1))] e61 _
            refine ab_callS (As := [.int (iI (-1))]) (rest := []) dX8_readClause_64 lX8_55 (Nat.le_of_ble_eq_true rfl) (Nat.le_of_ble_eq_true rfl) rfl ?_
            refine c_comparison (by decide) ?_
            show ab_X (d + 32) mX8_readClause 67 [(2, .int (iI 1)), (1, .int (iI (sg T z (lk T z (lk T z p + 1) + 1)))), (0, .ref 10)] [.int (iI (-1))] e61 _
            refine z_iconst dX8_readClause_67 ?_
            refine z_icmp_ne (tgt := 82) dX8_readClause_68 (by decide) (by decide) (by decide) (fun c68 => absurd c68 (by decide)) (fun _ => ?_)
            refine ab_aload_n (k := 2) dX8_readClause_71 rfl rfl ?_
            refine z_getP (b := 11) dX8_readClause_72 fX8_12 rfl rfl rfl ?_
            refine z_bipush dX8_readClause_75 (by decide) ?_
            refine z_iconst dX8_readClause_77 ?_
            refine ab_callV (As := [.int (iI 13), .int (iI 0)]) (rest := []) dX8_readClause_78 lX8_59 rfl (Nat.le_of_ble_eq_true rfl) (Nat.le_of_ble_eq_true rfl) rfl ?_
            refine c_add11d Se61.2.2 (fun e78 se78 Ce78 => ?_)
            have Se78 := CD_add Se61 se78 Ce78
            show ab_X (d + 32) mX8_readClause 81 [(2, .int (iI 1)), (1, .int (iI (sg T z (lk T z (lk T z p + 1) + 1)))), (0, .ref 10)] [] e78 _
            refine z_vret dX8_readClause_81 rfl ?_
            first
            | exact K0 _ _ ((congrArg Prod.fst (cl_1 x6 x15)).trans ((congrArg Prod.fst (body_1 (p := (lk T z (lk T z p + 1) + 1)) (by omega) j85)).trans (tail_2 x94 j117 n117))) n117 Se78
            | exact K0 _ _ ((congrArg Prod.fst (cl_1 x6 x15)).trans ((congrArg Prod.fst (body_5 (p := (lk T z (lk T z p + 1) + 1)) (by omega) j50 (by omega) j85)).trans (tail_2 x94 j117 n117))) n117 Se78
            | exact K0 _ _ ((congrArg Prod.fst (cl_1 x6 x15)).trans ((congrArg Prod.fst (body_1 (p := (lk T z (lk T z p + 1) + 1)) (by omega) j85)).trans (tail_3 x94))) (by omega) Se78
            | exact K0 _ _ ((congrArg Prod.fst (cl_1 x6 x15)).trans ((congrArg Prod.fst (body_5 (p := (lk T z (lk T z p + 1) + 1)) (by omega) j50 (by omega) j85)).trans (tail_3 x94))) (by omega) Se78
            | exact K0 _ _ ((congrArg Prod.fst (cl_1 x6 x15)).trans (body_2 (by omega) j85 n85)) n85 Se78
            | exact K0 _ _ ((congrArg Prod.fst (cl_1 x6 x15)).trans (body_6 (by omega) j50 (by omega) j85 n85)) n85 Se78
            | exact K0 _ _ ((congrArg Prod.fst (cl_1 x6 x15)).trans (body_3 (by omega) j50 n50)) n50 Se78
            | exact K0 _ _ (cl_2 x6 x15) (by omega) Se78
            | exact K0 _ _ (cl_3 x6) (by omega) Se78
    · skip
      have Se15 := CL_d Sl6 hz se15 te15
      show ab_X (d + 32) mX8_readClause 18 [(0, .ref 10)] [] e15 _
      refine ab_aload_n (k := 0) dX8_readClause_18 rfl rfl ?_
      refine z_getP (b := 1) dX8_readClause_19 fX8_18 rfl rfl rfl ?_
      refine ab_callV (As := []) (rest := []) dX8_readClause_22 lX8_34 rfl (Nat.le_of_ble_eq_true rfl) (Nat.le_of_ble_eq_true rfl) rfl ?_
      refine c_dlook hz Se15.2.1 (fun e22 se22 te22 => ?_)
      have Se22 := CD_d Se15 se22 te22
      show ab_X (d + 32) mX8_readClause 25 [(0, .ref 10)] [.int (iI (-1))] e22 _
      refine ab_istore_n (ls' := [(1, .int (iI (-1))), (0, .ref 10)]) dX8_readClause_25 rfl (by decide) rfl ?_
      refine ab_iload_n (k := 0) dX8_readClause_26 rfl rfl ?_
      refine z_bipush dX8_readClause_27 (by decide) ?_
      refine z_icmp_eq (tgt := 42) dX8_readClause_29 (by decide) (by decide) (by decide) (fun c29 => absurd c29 (by decide)) (fun _ => ?_)
      refine ab_iload_n (k := 0) dX8_readClause_32 rfl rfl ?_
      refine z_bipush dX8_readClause_33 (by decide) ?_
      refine z_icmp_eq (tgt := 42) dX8_readClause_35 (by decide) (by decide) (by decide) (fun c35 => absurd c35 (by decide)) (fun _ => ?_)
      refine z_iconst dX8_readClause_38 ?_
      refine ab_goto (tgt := 43) dX8_readClause_39 (by decide) ?_
      refine ab_istore_n (ls' := [(2, .int (iI 1)), (1, .int (iI (-1))), (0, .ref 10)]) dX8_readClause_43 rfl (by decide) rfl ?_
      refine ab_iload_n (k := 0) dX8_readClause_44 rfl rfl ?_
      refine z_if_eq (tgt := 53) dX8_readClause_45 (by decide) (by decide) (fun c45 => absurd c45 (by decide)) (fun _ => ?_)
      refine ab_aload_n (k := 2) dX8_readClause_48 rfl rfl ?_
      refine z_iconst dX8_readClause_49 ?_
      refine ab_callV (As := [.int (iI 0)]) (rest := []) dX8_readClause_50 lX8_51 rfl (Nat.le_of_ble_eq_true rfl) (Nat.le_of_ble_eq_true rfl) rfl ?_
      refine (d_readSum (d := d + 24) (D := 0) hz) h0 _ _ _ Se22 (fun e50 Se50 => ?_)
      show ab_X (d + 32) mX8_readClause 53 [(2, .int (iI 1)), (1, .int (iI (-1))), (0, .ref 10)] [] e50 _
      refine ab_iload_n (k := 0) dX8_readClause_53 rfl rfl ?_
      refine z_if_eq (tgt := 82) dX8_readClause_54 (by decide) (by decide) (fun c54 => absurd c54 (by decide)) (fun _ => ?_)
      refine ab_aload_n (k := 2) dX8_readClause_57 rfl rfl ?_
      refine z_getP (b := 1) dX8_readClause_58 fX8_18 rfl rfl rfl ?_
      refine ab_callV (As := []) (rest := []) dX8_readClause_61 lX8_34 rfl (Nat.le_of_ble_eq_true rfl) (Nat.le_of_ble_eq_true rfl) rfl ?_
      refine c_dlook hz Se50.2.1 (fun e61 se61 te61 => ?_)
      have Se61 := CD_d Se50 se61 te61
      show ab_X (d + 32) mX8_readClause 64 [(2, .int (iI 1)), (1, .int (iI (-1))), (0, .ref 10)] [.int (iI (-1))] e61 _
      refine ab_callS (As := [.int (iI (-1))]) (rest := []) dX8_readClause_64 lX8_55 (Nat.le_of_ble_eq_true rfl) (Nat.le_of_ble_eq_true rfl) rfl ?_
      refine c_comparison (by decide) ?_
      show ab_X (d + 32) mX8_readClause 67 [(2, .int (iI 1)), (1, .int (iI (-1))), (0, .ref 10)] [.int (iI (-1))] e61 _
      refine z_iconst dX8_readClause_67 ?_
      refine z_icmp_ne (tgt := 82) dX8_readClause_68 (by decide) (by decide) (by decide) (fun c68 => absurd c68 (by decide)) (fun _ => ?_)
      refine ab_aload_n (k := 2) dX8_readClause_71 rfl rfl ?_
      refine z_getP (b := 11) dX8_readClause_72 fX8_12 rfl rfl rfl ?_
      refine z_bipush dX8_readClause_75 (by decide) ?_
      refine z_iconst dX8_readClause_77 ?_
      refine ab_callV (As := [.int (iI 13), .int (iI 0)]) (rest := []) dX8_readClause_78 lX8_59 rfl (Nat.le_of_ble_eq_true rfl) (Nat.le_of_ble_eq_true rfl) rfl ?_
      refine c_add11d Se61.2.2 (fun e78 se78 Ce78 => ?_)
      have Se78 := CD_add Se61 se78 Ce78
      show ab_X (d + 32) mX8_readClause 81 [(2, .int (iI 1)), (1, .int (iI (-1))), (0, .ref 10)] [] e78 _
      refine z_vret dX8_readClause_81 rfl ?_
      first
      | exact K0 _ _ ((congrArg Prod.fst (cl_1 x6 x15)).trans ((congrArg Prod.fst (body_1 (p := (lk T z (lk T z p + 1) + 1)) (by omega) j85)).trans (tail_2 x94 j117 n117))) n117 Se78
      | exact K0 _ _ ((congrArg Prod.fst (cl_1 x6 x15)).trans ((congrArg Prod.fst (body_5 (p := (lk T z (lk T z p + 1) + 1)) (by omega) j50 (by omega) j85)).trans (tail_2 x94 j117 n117))) n117 Se78
      | exact K0 _ _ ((congrArg Prod.fst (cl_1 x6 x15)).trans ((congrArg Prod.fst (body_1 (p := (lk T z (lk T z p + 1) + 1)) (by omega) j85)).trans (tail_3 x94))) (by omega) Se78
      | exact K0 _ _ ((congrArg Prod.fst (cl_1 x6 x15)).trans ((congrArg Prod.fst (body_5 (p := (lk T z (lk T z p + 1) + 1)) (by omega) j50 (by omega) j85)).trans (tail_3 x94))) (by omega) Se78
      | exact K0 _ _ ((congrArg Prod.fst (cl_1 x6 x15)).trans (body_2 (by omega) j85 n85)) n85 Se78
      | exact K0 _ _ ((congrArg Prod.fst (cl_1 x6 x15)).trans (body_6 (by omega) j50 (by omega) j85 n85)) n85 Se78
      | exact K0 _ _ ((congrArg Prod.fst (cl_1 x6 x15)).trans (body_3 (by omega) j50 n50)) n50 Se78
      | exact K0 _ _ (cl_2 x6 x15) (by omega) Se78
      | exact K0 _ _ (cl_3 x6) (by omega) Se78
  · skip
    have Se6 := CL_d Sh hz se6 te6
    show ab_X (d + 32) mX8_readClause 9 [(0, .ref 10)] [] e6 _
    refine ab_aload_n (k := 0) dX8_readClause_9 rfl rfl ?_
    refine z_getP (b := 1) dX8_readClause_10 fX8_18 rfl rfl rfl ?_
    refine z_bipush dX8_readClause_13 (by decide) ?_
    refine ab_callV (As := [.int (iI 58)]) (rest := []) dX8_readClause_15 lX8_47 rfl (Nat.le_of_ble_eq_true rfl) (Nat.le_of_ble_eq_true rfl) rfl ?_
    refine c_dexpect hz (by decide) Se6.2.1 (fun e15 se15 te15 => ?_)
    have Se15 := CD_d Se6 se15 te15
    show ab_X (d + 32) mX8_readClause 18 [(0, .ref 10)] [] e15 _
    refine ab_aload_n (k := 0) dX8_readClause_18 rfl rfl ?_
    refine z_getP (b := 1) dX8_readClause_19 fX8_18 rfl rfl rfl ?_
    refine ab_callV (As := []) (rest := []) dX8_readClause_22 lX8_34 rfl (Nat.le_of_ble_eq_true rfl) (Nat.le_of_ble_eq_true rfl) rfl ?_
    refine c_dlook hz Se15.2.1 (fun e22 se22 te22 => ?_)
    have Se22 := CD_d Se15 se22 te22
    show ab_X (d + 32) mX8_readClause 25 [(0, .ref 10)] [.int (iI (-1))] e22 _
    refine ab_istore_n (ls' := [(1, .int (iI (-1))), (0, .ref 10)]) dX8_readClause_25 rfl (by decide) rfl ?_
    refine ab_iload_n (k := 0) dX8_readClause_26 rfl rfl ?_
    refine z_bipush dX8_readClause_27 (by decide) ?_
    refine z_icmp_eq (tgt := 42) dX8_readClause_29 (by decide) (by decide) (by decide) (fun c29 => absurd c29 (by decide)) (fun _ => ?_)
    refine ab_iload_n (k := 0) dX8_readClause_32 rfl rfl ?_
    refine z_bipush dX8_readClause_33 (by decide) ?_
    refine z_icmp_eq (tgt := 42) dX8_readClause_35 (by decide) (by decide) (by decide) (fun c35 => absurd c35 (by decide)) (fun _ => ?_)
    refine z_iconst dX8_readClause_38 ?_
    refine ab_goto (tgt := 43) dX8_readClause_39 (by decide) ?_
    refine ab_istore_n (ls' := [(2, .int (iI 1)), (1, .int (iI (-1))), (0, .ref 10)]) dX8_readClause_43 rfl (by decide) rfl ?_
    refine ab_iload_n (k := 0) dX8_readClause_44 rfl rfl ?_
    refine z_if_eq (tgt := 53) dX8_readClause_45 (by decide) (by decide) (fun c45 => absurd c45 (by decide)) (fun _ => ?_)
    refine ab_aload_n (k := 2) dX8_readClause_48 rfl rfl ?_
    refine z_iconst dX8_readClause_49 ?_
    refine ab_callV (As := [.int (iI 0)]) (rest := []) dX8_readClause_50 lX8_51 rfl (Nat.le_of_ble_eq_true rfl) (Nat.le_of_ble_eq_true rfl) rfl ?_
    refine (d_readSum (d := d + 24) (D := 0) hz) h0 _ _ _ Se22 (fun e50 Se50 => ?_)
    show ab_X (d + 32) mX8_readClause 53 [(2, .int (iI 1)), (1, .int (iI (-1))), (0, .ref 10)] [] e50 _
    refine ab_iload_n (k := 0) dX8_readClause_53 rfl rfl ?_
    refine z_if_eq (tgt := 82) dX8_readClause_54 (by decide) (by decide) (fun c54 => absurd c54 (by decide)) (fun _ => ?_)
    refine ab_aload_n (k := 2) dX8_readClause_57 rfl rfl ?_
    refine z_getP (b := 1) dX8_readClause_58 fX8_18 rfl rfl rfl ?_
    refine ab_callV (As := []) (rest := []) dX8_readClause_61 lX8_34 rfl (Nat.le_of_ble_eq_true rfl) (Nat.le_of_ble_eq_true rfl) rfl ?_
    refine c_dlook hz Se50.2.1 (fun e61 se61 te61 => ?_)
    have Se61 := CD_d Se50 se61 te61
    show ab_X (d + 32) mX8_readClause 64 [(2, .int (iI 1)), (1, .int (iI (-1))), (0, .ref 10)] [.int (iI (-1))] e61 _
    refine ab_callS (As := [.int (iI (-1))]) (rest := []) dX8_readClause_64 lX8_55 (Nat.le_of_ble_eq_true rfl) (Nat.le_of_ble_eq_true rfl) rfl ?_
    refine c_comparison (by decide) ?_
    show ab_X (d + 32) mX8_readClause 67 [(2, .int (iI 1)), (1, .int (iI (-1))), (0, .ref 10)] [.int (iI (-1))] e61 _
    refine z_iconst dX8_readClause_67 ?_
    refine z_icmp_ne (tgt := 82) dX8_readClause_68 (by decide) (by decide) (by decide) (fun c68 => absurd c68 (by decide)) (fun _ => ?_)
    refine ab_aload_n (k := 2) dX8_readClause_71 rfl rfl ?_
    refine z_getP (b := 11) dX8_readClause_72 fX8_12 rfl rfl rfl ?_
    refine z_bipush dX8_readClause_75 (by decide) ?_
    refine z_iconst dX8_readClause_77 ?_
    refine ab_callV (As := [.int (iI 13), .int (iI 0)]) (rest := []) dX8_readClause_78 lX8_59 rfl (Nat.le_of_ble_eq_true rfl) (Nat.le_of_ble_eq_true rfl) rfl ?_
    refine c_add11d Se61.2.2 (fun e78 se78 Ce78 => ?_)
    have Se78 := CD_add Se61 se78 Ce78
    show ab_X (d + 32) mX8_readClause 81 [(2, .int (iI 1)), (1, .int (iI (-1))), (0, .ref 10)] [] e78 _
    refine z_vret dX8_readClause_81 rfl ?_
    first
    | exact K0 _ _ ((congrArg Prod.fst (cl_1 x6 x15)).trans ((congrArg Prod.fst (body_1 (p := (lk T z (lk T z p + 1) + 1)) (by omega) j85)).trans (tail_2 x94 j117 n117))) n117 Se78
    | exact K0 _ _ ((congrArg Prod.fst (cl_1 x6 x15)).trans ((congrArg Prod.fst (body_5 (p := (lk T z (lk T z p + 1) + 1)) (by omega) j50 (by omega) j85)).trans (tail_2 x94 j117 n117))) n117 Se78
    | exact K0 _ _ ((congrArg Prod.fst (cl_1 x6 x15)).trans ((congrArg Prod.fst (body_1 (p := (lk T z (lk T z p + 1) + 1)) (by omega) j85)).trans (tail_3 x94))) (by omega) Se78
    | exact K0 _ _ ((congrArg Prod.fst (cl_1 x6 x15)).trans ((congrArg Prod.fst (body_5 (p := (lk T z (lk T z p + 1) + 1)) (by omega) j50 (by omega) j85)).trans (tail_3 x94))) (by omega) Se78
    | exact K0 _ _ ((congrArg Prod.fst (cl_1 x6 x15)).trans (body_2 (by omega) j85 n85)) n85 Se78
    | exact K0 _ _ ((congrArg Prod.fst (cl_1 x6 x15)).trans (body_6 (by omega) j50 (by omega) j85 n85)) n85 Se78
    | exact K0 _ _ ((congrArg Prod.fst (cl_1 x6 x15)).trans (body_3 (by omega) j50 n50)) n50 Se78
    | exact K0 _ _ (cl_2 x6 x15) (by omega) Se78
    | exact K0 _ _ (cl_3 x6) (by omega) Se78
theorem c_rclauseD {d : Nat} {h : ab_H} {Q : ab_Q} {z : Nat} {h0 : ab_H} {w : Int}  (hz : z ≤ 160) (Sh : CD z h0 h w) (K : ∀ h', CD z h0 h' w → Q none h') : ab_X (d + 32) mX8_readClause 0 (lv_args 0 [.ref 10]) [] h Q := by
  show ab_X (d + 32) mX8_readClause 0 [(0, .ref 10)] [] h Q
  refine ab_aload_n (k := 0) dX8_readClause_0 rfl rfl ?_
  refine z_getP (b := 1) dX8_readClause_1 fX8_18 rfl rfl rfl ?_
  refine z_bipush dX8_readClause_4 (by decide) ?_
  refine ab_callV (As := [.int (iI 121)]) (rest := []) dX8_readClause_6 lX8_47 rfl (Nat.le_of_ble_eq_true rfl) (Nat.le_of_ble_eq_true rfl) rfl ?_
  refine c_dexpect hz (by decide) Sh.2.1 (fun e6 se6 te6 => ?_)
  have Se6 := CD_d Sh se6 te6
  show ab_X (d + 32) mX8_readClause 9 [(0, .ref 10)] [] e6 _
  refine ab_aload_n (k := 0) dX8_readClause_9 rfl rfl ?_
  refine z_getP (b := 1) dX8_readClause_10 fX8_18 rfl rfl rfl ?_
  refine z_bipush dX8_readClause_13 (by decide) ?_
  refine ab_callV (As := [.int (iI 58)]) (rest := []) dX8_readClause_15 lX8_47 rfl (Nat.le_of_ble_eq_true rfl) (Nat.le_of_ble_eq_true rfl) rfl ?_
  refine c_dexpect hz (by decide) Se6.2.1 (fun e15 se15 te15 => ?_)
  have Se15 := CD_d Se6 se15 te15
  show ab_X (d + 32) mX8_readClause 18 [(0, .ref 10)] [] e15 _
  refine ab_aload_n (k := 0) dX8_readClause_18 rfl rfl ?_
  refine z_getP (b := 1) dX8_readClause_19 fX8_18 rfl rfl rfl ?_
  refine ab_callV (As := []) (rest := []) dX8_readClause_22 lX8_34 rfl (Nat.le_of_ble_eq_true rfl) (Nat.le_of_ble_eq_true rfl) rfl ?_
  refine c_dlook hz Se15.2.1 (fun e22 se22 te22 => ?_)
  have Se22 := CD_d Se15 se22 te22
  show ab_X (d + 32) mX8_readClause 25 [(0, .ref 10)] [.int (iI (-1))] e22 _
  refine ab_istore_n (ls' := [(1, .int (iI (-1))), (0, .ref 10)]) dX8_readClause_25 rfl (by decide) rfl ?_
  refine ab_iload_n (k := 0) dX8_readClause_26 rfl rfl ?_
  refine z_bipush dX8_readClause_27 (by decide) ?_
  refine z_icmp_eq (tgt := 42) dX8_readClause_29 (by decide) (by decide) (by decide) (fun c29 => absurd c29 (by decide)) (fun _ => ?_)
  refine ab_iload_n (k := 0) dX8_readClause_32 rfl rfl ?_
  refine z_bipush dX8_readClause_33 (by decide) ?_
  refine z_icmp_eq (tgt := 42) dX8_readClause_35 (by decide) (by decide) (by decide) (fun c35 => absurd c35 (by decide)) (fun _ => ?_)
  refine z_iconst dX8_readClause_38 ?_
  refine ab_goto (tgt := 43) dX8_readClause_39 (by decide) ?_
  refine ab_istore_n (ls' := [(2, .int (iI 1)), (1, .int (iI (-1))), (0, .ref 10)]) dX8_readClause_43 rfl (by decide) rfl ?_
  refine ab_iload_n (k := 0) dX8_readClause_44 rfl rfl ?_
  refine z_if_eq (tgt := 53) dX8_readClause_45 (by decide) (by decide) (fun c45 => absurd c45 (by decide)) (fun _ => ?_)
  refine ab_aload_n (k := 2) dX8_readClause_48 rfl rfl ?_
  refine z_iconst dX8_readClause_49 ?_
  refine ab_callV (As := [.int (iI 0)]) (rest := []) dX8_readClause_50 lX8_51 rfl (Nat.le_of_ble_eq_true rfl) (Nat.le_of_ble_eq_true rfl) rfl ?_
  refine (d_readSum (d := d + 24) (D := 0) hz) h0 _ _ _ Se22 (fun e50 Se50 => ?_)
  show ab_X (d + 32) mX8_readClause 53 [(2, .int (iI 1)), (1, .int (iI (-1))), (0, .ref 10)] [] e50 _
  refine ab_iload_n (k := 0) dX8_readClause_53 rfl rfl ?_
  refine z_if_eq (tgt := 82) dX8_readClause_54 (by decide) (by decide) (fun c54 => absurd c54 (by decide)) (fun _ => ?_)
  refine ab_aload_n (k := 2) dX8_readClause_57 rfl rfl ?_
  refine z_getP (b := 1) dX8_readClause_58 fX8_18 rfl rfl rfl ?_
  refine ab_callV (As := []) (rest := []) dX8_readClause_61 lX8_34 rfl (Nat.le_of_ble_eq_true rfl) (Nat.le_of_ble_eq_true rfl) rfl ?_
  refine c_dlook hz Se50.2.1 (fun e61 se61 te61 => ?_)
  have Se61 := CD_d Se50 se61 te61
  show ab_X (d + 32) mX8_readClause 64 [(2, .int (iI 1)), (1, .int (iI (-1))), (0, .ref 10)] [.int (iI (-1))] e61 _
  refine ab_callS (As := [.int (iI (-1))]) (rest := []) dX8_readClause_64 lX8_55 (Nat.le_of_ble_eq_true rfl) (Nat.le_of_ble_eq_true rfl) rfl ?_
  refine c_comparison (by decide) ?_
  show ab_X (d + 32) mX8_readClause 67 [(2, .int (iI 1)), (1, .int (iI (-1))), (0, .ref 10)] [.int (iI (-1))] e61 _
  refine z_iconst dX8_readClause_67 ?_
  refine z_icmp_ne (tgt := 82) dX8_readClause_68 (by decide) (by decide) (by decide) (fun c68 => absurd c68 (by decide)) (fun _ => ?_)
  refine ab_aload_n (k := 2) dX8_readClause_71 rfl rfl ?_
  refine z_getP (b := 11) dX8_readClause_72 fX8_12 rfl rfl rfl ?_
  refine z_bipush dX8_readClause_75 (by decide) ?_
  refine z_iconst dX8_readClause_77 ?_
  refine ab_callV (As := [.int (iI 13), .int (iI 0)]) (rest := []) dX8_readClause_78 lX8_59 rfl (Nat.le_of_ble_eq_true rfl) (Nat.le_of_ble_eq_true rfl) rfl ?_
  refine c_add11d Se61.2.2 (fun e78 se78 Ce78 => ?_)
  have Se78 := CD_add Se61 se78 Ce78
  show ab_X (d + 32) mX8_readClause 81 [(2, .int (iI 1)), (1, .int (iI (-1))), (0, .ref 10)] [] e78 _
  refine z_vret dX8_readClause_81 rfl ?_
  exact K _ Se78
