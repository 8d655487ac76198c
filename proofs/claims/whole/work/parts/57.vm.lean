/-! THE SMALL MACHINE: orders, a pile of at most 32 -/
def bnd (v : Int) : Int := max (-1000000) (min 1000000 v)
theorem bnd_b (v : Int) : -1000000 ≤ bnd v ∧ bnd v ≤ 1000000 := by unfold bnd; omega
def jn (o l r : Int) : Int := if o = 2 then bnd (l + r) else if o = 3 then bnd (l - r) else if o = 4 then bnd (l * r) else if o = 5 then (if r = 0 then 0 else bnd (Int.tdiv l r)) else if o = 6 then (if l = r then 1 else 0) else if o = 7 then (if l < r then 1 else 0) else if o = 8 then (if l > r then 1 else 0) else if o = 10 then ((iI l) &&& (iI r)).toInt else if o = 11 then ((iI l) ||| (iI r)).toInt else 0
theorem jn_R (o l r : Int) : inR (jn o l r) := by
  have b1 := bnd_b (l + r)
  have b2 := bnd_b (l - r)
  have b3 := bnd_b (l * r)
  have b4 := bnd_b (Int.tdiv l r)
  have b5 := inR_of ((iI l) &&& (iI r))
  have b6 := inR_of ((iI l) ||| (iI r))
  unfold jn
  (repeat' split) <;> omega
theorem mulL {a b : Int} (ha : inR a) (hb : inR b) : inL (a * b) := by
  have h1 : a.natAbs ≤ 2147483648 := by omega
  have h2 : b.natAbs ≤ 2147483648 := by omega
  have h3 : (a * b).natAbs ≤ 2147483648 * 2147483648 := by rw [Int.natAbs_mul]; exact Nat.mul_le_mul h1 h2
  omega
theorem tdivL {a b : Int} (ha : inR a) : inL (Int.tdiv a b) := by
  have h1 : (Int.tdiv a b).natAbs ≤ a.natAbs := by rw [Int.natAbs_tdiv]; exact Nat.div_le_self _ _
  omega
theorem c_bounded {d : Nat} {h : ab_H} {Q : ab_Q} {v : Int} (hv : inL v) (K : Q (some (.int (iI (bnd v)))) h) : ab_X (d + 1) mX7_bounded 0 (lv_args 0 [.long (lL v)]) [] h Q := by
  show ab_X (d + 1) mX7_bounded 0 [(0, .long (lL v))] [] h Q
  refine z_ldc2 (v := (-1000000)) dX7_bounded_0 qX7_50 (by decide) ?_
  refine z_ldc2 (v := 1000000) dX7_bounded_3 qX7_52 (by decide) ?_
  refine ab_lload_n (k := 0) dX7_bounded_6 rfl rfl ?_
  refine z_mminl dX7_bounded_7 lX7_54 (Nat.le_of_ble_eq_true rfl) (by decide) (by omega) ?_
  refine z_mmaxl dX7_bounded_10 lX7_60 (Nat.le_of_ble_eq_true rfl) (by decide) (by omega) ?_
  refine z_l2i dX7_bounded_13 ?_
  refine z_iret dX7_bounded_14 rfl ?_
  exact K
theorem c_joined {d : Nat} {h : ab_H} {Q : ab_Q} {o l r : Int} (ho : inR o) (hl : inR l) (hr : inR r) (K : Q (some (.int (iI (jn o l r)))) h) : ab_X (d + 2) mX7_joined 0 (lv_args 0 [.int (iI o), .int (iI l), .int (iI r)]) [] h Q := by
  show ab_X (d + 2) mX7_joined 0 [(0, .int (iI o)), (1, .int (iI l)), (2, .int (iI r))] [] h Q
  have K2 := K
  unfold jn at K2
  refine ab_iload_n (k := 0) dX7_joined_0 rfl rfl ?_
  by_cases q1_0 : o = 2
  · skip
    refine z_swIn (tgt := 56) dX7_joined_1 (by omega) (by omega) (by omega) (by rw [q1_0]; rfl) (by decide) ?_
    refine ab_iload_n (k := 1) dX7_joined_56 rfl rfl ?_
    refine z_i2l dX7_joined_57 (by omega) ?_
    refine ab_iload_n (k := 2) dX7_joined_58 rfl rfl ?_
    refine z_i2l dX7_joined_59 (by omega) ?_
    refine z_ladd dX7_joined_60 ?_
    refine ab_callS (As := [.long (lL (l + r))]) (rest := []) dX7_joined_61 lX7_46 (Nat.le_of_ble_eq_true rfl) (Nat.le_of_ble_eq_true rfl) rfl ?_
    refine c_bounded (by omega) ?_
    have bb := bnd_b (l + r)
    show ab_X (d + 2) mX7_joined 64 [(0, .int (iI o)), (1, .int (iI l)), (2, .int (iI r))] [.int (iI (bnd (l + r)))] h _
    refine z_iret dX7_joined_64 rfl ?_
    revert K2
    (repeat' split) <;> intro K2 <;> first | exact K2 | (exfalso; omega)
  by_cases q1_1 : o = 3
  · skip
    refine z_swIn (tgt := 65) dX7_joined_1 (by omega) (by omega) (by omega) (by rw [q1_1]; rfl) (by decide) ?_
    refine ab_iload_n (k := 1) dX7_joined_65 rfl rfl ?_
    refine z_i2l dX7_joined_66 (by omega) ?_
    refine ab_iload_n (k := 2) dX7_joined_67 rfl rfl ?_
    refine z_i2l dX7_joined_68 (by omega) ?_
    refine z_lsub dX7_joined_69 ?_
    refine ab_callS (As := [.long (lL (l - r))]) (rest := []) dX7_joined_70 lX7_46 (Nat.le_of_ble_eq_true rfl) (Nat.le_of_ble_eq_true rfl) rfl ?_
    refine c_bounded (by omega) ?_
    have bb := bnd_b (l - r)
    show ab_X (d + 2) mX7_joined 73 [(0, .int (iI o)), (1, .int (iI l)), (2, .int (iI r))] [.int (iI (bnd (l - r)))] h _
    refine z_iret dX7_joined_73 rfl ?_
    revert K2
    (repeat' split) <;> intro K2 <;> first | exact K2 | (exfalso; omega)
  by_cases q1_2 : o = 4
  · skip
    refine z_swIn (tgt := 74) dX7_joined_1 (by omega) (by omega) (by omega) (by rw [q1_2]; rfl) (by decide) ?_
    refine ab_iload_n (k := 1) dX7_joined_74 rfl rfl ?_
    refine z_i2l dX7_joined_75 (by omega) ?_
    refine ab_iload_n (k := 2) dX7_joined_76 rfl rfl ?_
    refine z_i2l dX7_joined_77 (by omega) ?_
    refine z_lmul dX7_joined_78 ?_
    refine ab_callS (As := [.long (lL (l * r))]) (rest := []) dX7_joined_79 lX7_46 (Nat.le_of_ble_eq_true rfl) (Nat.le_of_ble_eq_true rfl) rfl ?_
    refine c_bounded (mulL hl hr) ?_
    have bb := bnd_b (l * r)
    show ab_X (d + 2) mX7_joined 82 [(0, .int (iI o)), (1, .int (iI l)), (2, .int (iI r))] [.int (iI (bnd (l * r)))] h _
    refine z_iret dX7_joined_82 rfl ?_
    revert K2
    (repeat' split) <;> intro K2 <;> first | exact K2 | (exfalso; omega)
  by_cases q1_3 : o = 5
  · skip
    refine z_swIn (tgt := 83) dX7_joined_1 (by omega) (by omega) (by omega) (by rw [q1_3]; rfl) (by decide) ?_
    refine ab_iload_n (k := 2) dX7_joined_83 rfl rfl ?_
    refine z_if_ne (tgt := 91) dX7_joined_84 (by decide) (by omega) (fun c84 => ?_) (fun c84 => ?_)
    · skip
      refine ab_iload_n (k := 1) dX7_joined_91 rfl rfl ?_
      refine z_i2l dX7_joined_92 (by omega) ?_
      refine ab_iload_n (k := 2) dX7_joined_93 rfl rfl ?_
      refine z_i2l dX7_joined_94 (by omega) ?_
      refine z_ldiv dX7_joined_95 (by omega) (by omega) (by omega) ?_
      refine ab_callS (As := [.long (lL (Int.tdiv l r))]) (rest := []) dX7_joined_96 lX7_46 (Nat.le_of_ble_eq_true rfl) (Nat.le_of_ble_eq_true rfl) rfl ?_
      refine c_bounded (tdivL hl) ?_
      have bb := bnd_b (Int.tdiv l r)
      show ab_X (d + 2) mX7_joined 99 [(0, .int (iI o)), (1, .int (iI l)), (2, .int (iI r))] [.int (iI (bnd (Int.tdiv l r)))] h _
      refine z_iret dX7_joined_99 rfl ?_
      revert K2
      (repeat' split) <;> intro K2 <;> first | exact K2 | (exfalso; omega)
    · skip
      refine z_iconst dX7_joined_87 ?_
      refine ab_goto (tgt := 99) dX7_joined_88 (by decide) ?_
      refine z_iret dX7_joined_99 rfl ?_
      revert K2
      (repeat' split) <;> intro K2 <;> first | exact K2 | (exfalso; omega)
  by_cases q1_4 : o = 6
  · skip
    refine z_swIn (tgt := 100) dX7_joined_1 (by omega) (by omega) (by omega) (by rw [q1_4]; rfl) (by decide) ?_
    refine ab_iload_n (k := 1) dX7_joined_100 rfl rfl ?_
    refine ab_iload_n (k := 2) dX7_joined_101 rfl rfl ?_
    refine z_icmp_ne (tgt := 109) dX7_joined_102 (by decide) (by omega) (by omega) (fun c102 => ?_) (fun c102 => ?_)
    · skip
      refine z_iconst dX7_joined_109 ?_
      refine z_iret dX7_joined_110 rfl ?_
      revert K2
      (repeat' split) <;> intro K2 <;> first | exact K2 | (exfalso; omega)
    · skip
      refine z_iconst dX7_joined_105 ?_
      refine ab_goto (tgt := 110) dX7_joined_106 (by decide) ?_
      refine z_iret dX7_joined_110 rfl ?_
      revert K2
      (repeat' split) <;> intro K2 <;> first | exact K2 | (exfalso; omega)
  by_cases q1_5 : o = 7
  · skip
    refine z_swIn (tgt := 111) dX7_joined_1 (by omega) (by omega) (by omega) (by rw [q1_5]; rfl) (by decide) ?_
    refine ab_iload_n (k := 1) dX7_joined_111 rfl rfl ?_
    refine ab_iload_n (k := 2) dX7_joined_112 rfl rfl ?_
    refine z_icmp_ge (tgt := 120) dX7_joined_113 (by decide) (by omega) (by omega) (fun c113 => ?_) (fun c113 => ?_)
    · skip
      refine z_iconst dX7_joined_120 ?_
      refine z_iret dX7_joined_121 rfl ?_
      revert K2
      (repeat' split) <;> intro K2 <;> first | exact K2 | (exfalso; omega)
    · skip
      refine z_iconst dX7_joined_116 ?_
      refine ab_goto (tgt := 121) dX7_joined_117 (by decide) ?_
      refine z_iret dX7_joined_121 rfl ?_
      revert K2
      (repeat' split) <;> intro K2 <;> first | exact K2 | (exfalso; omega)
  by_cases q1_6 : o = 8
  · skip
    refine z_swIn (tgt := 122) dX7_joined_1 (by omega) (by omega) (by omega) (by rw [q1_6]; rfl) (by decide) ?_
    refine ab_iload_n (k := 1) dX7_joined_122 rfl rfl ?_
    refine ab_iload_n (k := 2) dX7_joined_123 rfl rfl ?_
    refine z_icmp_le (tgt := 131) dX7_joined_124 (by decide) (by omega) (by omega) (fun c124 => ?_) (fun c124 => ?_)
    · skip
      refine z_iconst dX7_joined_131 ?_
      refine z_iret dX7_joined_132 rfl ?_
      revert K2
      (repeat' split) <;> intro K2 <;> first | exact K2 | (exfalso; omega)
    · skip
      refine z_iconst dX7_joined_127 ?_
      refine ab_goto (tgt := 132) dX7_joined_128 (by decide) ?_
      refine z_iret dX7_joined_132 rfl ?_
      revert K2
      (repeat' split) <;> intro K2 <;> first | exact K2 | (exfalso; omega)
  by_cases q1_7 : o = 9
  · skip
    refine z_swIn (tgt := 141) dX7_joined_1 (by omega) (by omega) (by omega) (by rw [q1_7]; rfl) (by decide) ?_
    refine z_iconst dX7_joined_141 ?_
    refine z_iret dX7_joined_142 rfl ?_
    revert K2
    (repeat' split) <;> intro K2 <;> first | exact K2 | (exfalso; omega)
  by_cases q1_8 : o = 10
  · skip
    refine z_swIn (tgt := 133) dX7_joined_1 (by omega) (by omega) (by omega) (by rw [q1_8]; rfl) (by decide) ?_
    refine ab_iload_n (k := 1) dX7_joined_133 rfl rfl ?_
    refine ab_iload_n (k := 2) dX7_joined_134 rfl rfl ?_
    refine ab_iand dX7_joined_135 ?_
    refine z_top ?_
    have b1 := inR_of ((iI l) &&& (iI r))
    refine z_iret dX7_joined_136 rfl ?_
    revert K2
    (repeat' split) <;> intro K2 <;> first | exact K2 | (exfalso; omega)
  by_cases q1_9 : o = 11
  · skip
    refine z_swIn (tgt := 137) dX7_joined_1 (by omega) (by omega) (by omega) (by rw [q1_9]; rfl) (by decide) ?_
    refine ab_iload_n (k := 1) dX7_joined_137 rfl rfl ?_
    refine ab_iload_n (k := 2) dX7_joined_138 rfl rfl ?_
    refine ab_ior dX7_joined_139 ?_
    refine z_top ?_
    have b2 := inR_of ((iI l) ||| (iI r))
    refine z_iret dX7_joined_140 rfl ?_
    revert K2
    (repeat' split) <;> intro K2 <;> first | exact K2 | (exfalso; omega)
  refine z_swOut (tgt := 141) dX7_joined_1 (by omega) (by omega) (by decide) ?_
  refine z_iconst dX7_joined_141 ?_
  refine z_iret dX7_joined_142 rfl ?_
  revert K2
  (repeat' split) <;> intro K2 <;> first | exact K2 | (exfalso; omega)
def puS (v : Int) (st : List Int) : List Int := if st.length < 32 then v :: st else st
/-- one order but UNLESS and ANSWER -/
def sp1 (env : Nat → Int) (o d : Int) (st : List Int) : List Int := if o = 0 then puS d st else if o = 1 then puS (if 0 ≤ d ∧ d < 5 then env d.toNat else 0) st else if o = 9 then puS (if st.headD 0 = 0 then 1 else 0) st.tail else puS (jn o (st.tail.headD 0) (st.headD 0)) st.tail.tail
def wrt (env : Nat → Int) : List (Int × Int) → Nat → Int → List Int → Int
  | [], _, _, _ => 0
  | q :: r, i, f, st => if (i : Int) < f then wrt env r (i + 1) f st else if q.1 = 13 then st.headD 0 else if q.1 = 12 then wrt env r (i + 1) (if st.headD 0 = 0 then q.2 else (i : Int)) st.tail else wrt env r (i + 1) f (sp1 env q.1 q.2 st)
def PLr (r : Nat) (h : ab_H) (st : List Int) : Prop := zv h r 4 = (st.length : Int) ∧ st.length ≤ 32 ∧ ∀ k, k < st.length → zv h (r + 3) (st.length - 1 - k) = st.getD k 0
theorem PLr_pop {r : Nat} {h : ab_H} {v : Int} {st : List Int} (P : PLr r h (v :: st)) : PLr r (zp h r 4 (st.length : Int)) st ∧ zv h (r + 3) st.length = v := by
  have hl : st.length + 1 ≤ 32 := P.2.1
  refine ⟨⟨zv_zp_s (by omega), by omega, fun k hk => ?_⟩, ?_⟩
  · rw [zv_zp_a (by omega)]
    have := P.2.2 (k + 1) (by rw [List.length_cons]; omega)
    rw [List.length_cons, show st.length + 1 - 1 - (k + 1) = st.length - 1 - k by omega] at this
    exact this
  · have := P.2.2 0 (by rw [List.length_cons]; omega)
    rw [List.length_cons, show st.length + 1 - 1 - 0 = st.length by omega] at this
    exact this
theorem PLr_push {r : Nat} {h : ab_H} {v : Int} {st : List Int} (P : PLr r h st) (hl : st.length < 32) (hv : inR v) : PLr r (zp (zp h (r + 3) st.length v) r 4 ((st.length : Int) + 1)) (v :: st) := by
  refine ⟨by rw [zv_zp_s (by omega), List.length_cons]; rfl, by rw [List.length_cons]; omega, fun k hk => ?_⟩
  rw [List.length_cons] at hk ⊢
  rw [zv_zp_a (by omega)]
  cases k with
  | zero => rw [show st.length + 1 - 1 - 0 = st.length by omega, zv_zp_s hv]; rfl
  | succ k =>
    rw [zv_zp_ne (by omega), show st.length + 1 - 1 - (k + 1) = st.length - 1 - k by omega]
    exact P.2.2 k (by omega)
theorem hd_R {r : Nat} {h : ab_H} {st : List Int} (P : PLr r h st) : inR (st.headD 0) := by
  cases st with
  | nil => decide
  | cons v st => rw [show (v :: st).headD 0 = v from rfl, ← (PLr_pop P).2]; exact zv_R _ _ _
theorem c_push0 {d : Nat} {h : ab_H} {Q : ab_Q} {v : Int} {st : List Int} (hv : inR v) (P : PLr 20 h st) (K : ∀ h', sm [20, 23] h h' → zv h' 20 3 = zv h 20 3 → PLr 20 h' (puS v st) → Q none h') : ab_X d mX7_push 0 (lv_args 0 [.ref 20, .int (iI v)]) [] h Q := by
  show ab_X d mX7_push 0 [(0, .ref 20), (1, .int (iI v))] [] h Q
  have hP2 := P.2.1
  refine ab_aload_n (k := 0) dX7_push_0 rfl rfl ?_
  refine z_getI dX7_push_1 fX7_31 rfl (Or.inl rfl) ?_
  refine z_is (y := ((st.length : Nat) : Int)) P.1 ?_
  refine z_bipush dX7_push_4 (by decide) ?_
  refine z_icmp_ge (tgt := 29) dX7_push_6 (by decide) (by omega) (by decide) (fun c6 => ?_) (fun c6 => ?_)
  · skip
    refine z_vret dX7_push_29 rfl ?_
    first
    | (unfold puS at K; rw [if_pos (by omega)] at K; exact K _ ((sm_zp (by decide)).trans (sm_zp (by decide))) (by rw [zv_zp_ne (by decide), zv_zp_a (by decide)]) (PLr_push P (by omega) hv))
    | (unfold puS at K; rw [if_neg (by omega)] at K; exact K _ sm.refl rfl P)
  · skip
    refine ab_aload_n (k := 0) dX7_push_9 rfl rfl ?_
    refine z_getP (b := 23) dX7_push_10 fX7_18 rfl rfl rfl ?_
    refine ab_aload_n (k := 0) dX7_push_13 rfl rfl ?_
    refine z_getI dX7_push_14 fX7_31 rfl (Or.inl rfl) ?_
    refine z_is (y := ((st.length : Nat) : Int)) P.1 ?_
    refine ab_iload_n (k := 1) dX7_push_17 rfl rfl ?_
    refine z_iast dX7_push_18 rfl (by omega) (by omega) ?_
    simp only [Int.toNat_natCast]
    refine ab_aload_n (k := 0) dX7_push_19 rfl rfl ?_
    refine ab_dup dX7_push_20 rfl ?_
    refine z_getI dX7_push_21 fX7_31 rfl (Or.inl rfl) ?_
    refine z_is (y := zv h 20 4) (zv_zp_a (by decide)) ?_
    refine z_is (y := ((st.length : Nat) : Int)) P.1 ?_
    refine z_iconst dX7_push_24 ?_
    refine z_iadd dX7_push_25 ?_
    refine z_putI dX7_push_26 fX7_31 rfl rfl ?_
    refine z_vret dX7_push_29 rfl ?_
    first
    | (unfold puS at K; rw [if_pos (by omega)] at K; exact K _ ((sm_zp (by decide)).trans (sm_zp (by decide))) (by rw [zv_zp_ne (by decide), zv_zp_a (by decide)]) (PLr_push P (by omega) hv))
    | (unfold puS at K; rw [if_neg (by omega)] at K; exact K _ sm.refl rfl P)
theorem c_pop0 {d : Nat} {h : ab_H} {Q : ab_Q} {st : List Int} (P : PLr 20 h st) (K : ∀ h', sm [20, 23] h h' → zv h' 20 3 = zv h 20 3 → PLr 20 h' st.tail → Q (some (.int (iI (st.headD 0)))) h') : ab_X d mX7_pop 0 (lv_args 0 [.ref 20]) [] h Q := by
  show ab_X d mX7_pop 0 [(0, .ref 20)] [] h Q
  have hP2 := P.2.1
  have hP1 := P.1
  have hb4 := zv_R h 20 4
  refine ab_aload_n (k := 0) dX7_pop_0 rfl rfl ?_
  refine z_getI dX7_pop_1 fX7_31 rfl (Or.inl rfl) ?_
  have b1 := zv_R h 20 4
  refine z_if_gt (tgt := 9) dX7_pop_4 (by decide) (by omega) (fun c4 => ?_) (fun c4 => ?_)
  · skip
    refine ab_aload_n (k := 0) dX7_pop_9 rfl rfl ?_
    refine ab_dup dX7_pop_10 rfl ?_
    refine z_getI dX7_pop_11 fX7_31 rfl (Or.inl rfl) ?_
    have b2 := zv_R h 20 4
    refine z_iconst dX7_pop_14 ?_
    refine z_isub dX7_pop_15 ?_
    refine z_putI dX7_pop_16 fX7_31 rfl rfl ?_
    refine ab_aload_n (k := 0) dX7_pop_19 rfl rfl ?_
    refine z_getP (b := 23) dX7_pop_20 fX7_18 rfl rfl rfl ?_
    refine ab_aload_n (k := 0) dX7_pop_23 rfl rfl ?_
    refine z_getI dX7_pop_24 fX7_31 rfl (Or.inl rfl) ?_
    refine z_is (y := (zv h 20 4) - 1) (zv_zp_s (by omega)) ?_
    refine z_iald dX7_pop_27 rfl (by omega) (by omega) ?_
    refine z_is (y := zv h 23 ((zv h 20 4) - 1).toNat) (zv_zp_a (by decide)) ?_
    have b3 := zv_R h 23 ((zv h 20 4) - 1).toNat
    refine z_iret dX7_pop_28 rfl ?_
    first
    | (cases st with
       | nil => exact K _ sm.refl rfl P
       | cons v st => exfalso; rw [List.length_cons] at hP1; omega)
    | (cases st with
       | nil => exfalso; rw [List.length_nil] at hP1; omega
       | cons v st =>
         rw [List.length_cons] at hP1
         have e1 : zv h 20 4 - 1 = (st.length : Int) := by omega
         have e2 := PLr_pop P
         rw [e1]
         simp only [Int.toNat_natCast]
         rw [show zv h 23 st.length = v from e2.2]
         exact K _ (sm_zp (by decide)) (zv_zp_ne (by decide)) e2.1)
  · skip
    refine z_iconst dX7_pop_7 ?_
    refine z_iret dX7_pop_8 rfl ?_
    first
    | (cases st with
       | nil => exact K _ sm.refl rfl P
       | cons v st => exfalso; rw [List.length_cons] at hP1; omega)
    | (cases st with
       | nil => exfalso; rw [List.length_nil] at hP1; omega
       | cons v st =>
         rw [List.length_cons] at hP1
         have e1 : zv h 20 4 - 1 = (st.length : Int) := by omega
         have e2 := PLr_pop P
         rw [e1]
         simp only [Int.toNat_natCast]
         rw [show zv h 23 st.length = v from e2.2]
         exact K _ (sm_zp (by decide)) (zv_zp_ne (by decide)) e2.1)
theorem c_push1 {d : Nat} {h : ab_H} {Q : ab_Q} {v : Int} {st : List Int} (hv : inR v) (P : PLr 24 h st) (K : ∀ h', sm [24, 27] h h' → zv h' 24 3 = zv h 24 3 → PLr 24 h' (puS v st) → Q none h') : ab_X d mX7_push 0 (lv_args 0 [.ref 24, .int (iI v)]) [] h Q := by
  show ab_X d mX7_push 0 [(0, .ref 24), (1, .int (iI v))] [] h Q
  have hP2 := P.2.1
  refine ab_aload_n (k := 0) dX7_push_0 rfl rfl ?_
  refine z_getI dX7_push_1 fX7_31 rfl (Or.inl rfl) ?_
  refine z_is (y := ((st.length : Nat) : Int)) P.1 ?_
  refine z_bipush dX7_push_4 (by decide) ?_
  refine z_icmp_ge (tgt := 29) dX7_push_6 (by decide) (by omega) (by decide) (fun c6 => ?_) (fun c6 => ?_)
  · skip
    refine z_vret dX7_push_29 rfl ?_
    first
    | (unfold puS at K; rw [if_pos (by omega)] at K; exact K _ ((sm_zp (by decide)).trans (sm_zp (by decide))) (by rw [zv_zp_ne (by decide), zv_zp_a (by decide)]) (PLr_push P (by omega) hv))
    | (unfold puS at K; rw [if_neg (by omega)] at K; exact K _ sm.refl rfl P)
  · skip
    refine ab_aload_n (k := 0) dX7_push_9 rfl rfl ?_
    refine z_getP (b := 27) dX7_push_10 fX7_18 rfl rfl rfl ?_
    refine ab_aload_n (k := 0) dX7_push_13 rfl rfl ?_
    refine z_getI dX7_push_14 fX7_31 rfl (Or.inl rfl) ?_
    refine z_is (y := ((st.length : Nat) : Int)) P.1 ?_
    refine ab_iload_n (k := 1) dX7_push_17 rfl rfl ?_
    refine z_iast dX7_push_18 rfl (by omega) (by omega) ?_
    simp only [Int.toNat_natCast]
    refine ab_aload_n (k := 0) dX7_push_19 rfl rfl ?_
    refine ab_dup dX7_push_20 rfl ?_
    refine z_getI dX7_push_21 fX7_31 rfl (Or.inl rfl) ?_
    refine z_is (y := zv h 24 4) (zv_zp_a (by decide)) ?_
    refine z_is (y := ((st.length : Nat) : Int)) P.1 ?_
    refine z_iconst dX7_push_24 ?_
    refine z_iadd dX7_push_25 ?_
    refine z_putI dX7_push_26 fX7_31 rfl rfl ?_
    refine z_vret dX7_push_29 rfl ?_
    first
    | (unfold puS at K; rw [if_pos (by omega)] at K; exact K _ ((sm_zp (by decide)).trans (sm_zp (by decide))) (by rw [zv_zp_ne (by decide), zv_zp_a (by decide)]) (PLr_push P (by omega) hv))
    | (unfold puS at K; rw [if_neg (by omega)] at K; exact K _ sm.refl rfl P)
theorem c_pop1 {d : Nat} {h : ab_H} {Q : ab_Q} {st : List Int} (P : PLr 24 h st) (K : ∀ h', sm [24, 27] h h' → zv h' 24 3 = zv h 24 3 → PLr 24 h' st.tail → Q (some (.int (iI (st.headD 0)))) h') : ab_X d mX7_pop 0 (lv_args 0 [.ref 24]) [] h Q := by
  show ab_X d mX7_pop 0 [(0, .ref 24)] [] h Q
  have hP2 := P.2.1
  have hP1 := P.1
  have hb4 := zv_R h 24 4
  refine ab_aload_n (k := 0) dX7_pop_0 rfl rfl ?_
  refine z_getI dX7_pop_1 fX7_31 rfl (Or.inl rfl) ?_
  have b1 := zv_R h 24 4
  refine z_if_gt (tgt := 9) dX7_pop_4 (by decide) (by omega) (fun c4 => ?_) (fun c4 => ?_)
  · skip
    refine ab_aload_n (k := 0) dX7_pop_9 rfl rfl ?_
    refine ab_dup dX7_pop_10 rfl ?_
    refine z_getI dX7_pop_11 fX7_31 rfl (Or.inl rfl) ?_
    have b2 := zv_R h 24 4
    refine z_iconst dX7_pop_14 ?_
    refine z_isub dX7_pop_15 ?_
    refine z_putI dX7_pop_16 fX7_31 rfl rfl ?_
    refine ab_aload_n (k := 0) dX7_pop_19 rfl rfl ?_
    refine z_getP (b := 27) dX7_pop_20 fX7_18 rfl rfl rfl ?_
    refine ab_aload_n (k := 0) dX7_pop_23 rfl rfl ?_
    refine z_getI dX7_pop_24 fX7_31 rfl (Or.inl rfl) ?_
    refine z_is (y := (zv h 24 4) - 1) (zv_zp_s (by omega)) ?_
    refine z_iald dX7_pop_27 rfl (by omega) (by omega) ?_
    refine z_is (y := zv h 27 ((zv h 24 4) - 1).toNat) (zv_zp_a (by decide)) ?_
    have b3 := zv_R h 27 ((zv h 24 4) - 1).toNat
    refine z_iret dX7_pop_28 rfl ?_
    first
    | (cases st with
       | nil => exact K _ sm.refl rfl P
       | cons v st => exfalso; rw [List.length_cons] at hP1; omega)
    | (cases st with
       | nil => exfalso; rw [List.length_nil] at hP1; omega
       | cons v st =>
         rw [List.length_cons] at hP1
         have e1 : zv h 24 4 - 1 = (st.length : Int) := by omega
         have e2 := PLr_pop P
         rw [e1]
         simp only [Int.toNat_natCast]
         rw [show zv h 27 st.length = v from e2.2]
         exact K _ (sm_zp (by decide)) (zv_zp_ne (by decide)) e2.1)
  · skip
    refine z_iconst dX7_pop_7 ?_
    refine z_iret dX7_pop_8 rfl ?_
    first
    | (cases st with
       | nil => exact K _ sm.refl rfl P
       | cons v st => exfalso; rw [List.length_cons] at hP1; omega)
    | (cases st with
       | nil => exfalso; rw [List.length_nil] at hP1; omega
       | cons v st =>
         rw [List.length_cons] at hP1
         have e1 : zv h 24 4 - 1 = (st.length : Int) := by omega
         have e2 := PLr_pop P
         rw [e1]
         simp only [Int.toNat_natCast]
         rw [show zv h 27 st.length = v from e2.2]
         exact K _ (sm_zp (by decide)) (zv_zp_ne (by decide)) e2.1)
theorem c_push2 {d : Nat} {h : ab_H} {Q : ab_Q} {v : Int} {st : List Int} (hv : inR v) (P : PLr 28 h st) (K : ∀ h', sm [28, 31] h h' → zv h' 28 3 = zv h 28 3 → PLr 28 h' (puS v st) → Q none h') : ab_X d mX7_push 0 (lv_args 0 [.ref 28, .int (iI v)]) [] h Q := by
  show ab_X d mX7_push 0 [(0, .ref 28), (1, .int (iI v))] [] h Q
  have hP2 := P.2.1
  refine ab_aload_n (k := 0) dX7_push_0 rfl rfl ?_
  refine z_getI dX7_push_1 fX7_31 rfl (Or.inl rfl) ?_
  refine z_is (y := ((st.length : Nat) : Int)) P.1 ?_
  refine z_bipush dX7_push_4 (by decide) ?_
  refine z_icmp_ge (tgt := 29) dX7_push_6 (by decide) (by omega) (by decide) (fun c6 => ?_) (fun c6 => ?_)
  · skip
    refine z_vret dX7_push_29 rfl ?_
    first
    | (unfold puS at K; rw [if_pos (by omega)] at K; exact K _ ((sm_zp (by decide)).trans (sm_zp (by decide))) (by rw [zv_zp_ne (by decide), zv_zp_a (by decide)]) (PLr_push P (by omega) hv))
    | (unfold puS at K; rw [if_neg (by omega)] at K; exact K _ sm.refl rfl P)
  · skip
    refine ab_aload_n (k := 0) dX7_push_9 rfl rfl ?_
    refine z_getP (b := 31) dX7_push_10 fX7_18 rfl rfl rfl ?_
    refine ab_aload_n (k := 0) dX7_push_13 rfl rfl ?_
    refine z_getI dX7_push_14 fX7_31 rfl (Or.inl rfl) ?_
    refine z_is (y := ((st.length : Nat) : Int)) P.1 ?_
    refine ab_iload_n (k := 1) dX7_push_17 rfl rfl ?_
    refine z_iast dX7_push_18 rfl (by omega) (by omega) ?_
    simp only [Int.toNat_natCast]
    refine ab_aload_n (k := 0) dX7_push_19 rfl rfl ?_
    refine ab_dup dX7_push_20 rfl ?_
    refine z_getI dX7_push_21 fX7_31 rfl (Or.inl rfl) ?_
    refine z_is (y := zv h 28 4) (zv_zp_a (by decide)) ?_
    refine z_is (y := ((st.length : Nat) : Int)) P.1 ?_
    refine z_iconst dX7_push_24 ?_
    refine z_iadd dX7_push_25 ?_
    refine z_putI dX7_push_26 fX7_31 rfl rfl ?_
    refine z_vret dX7_push_29 rfl ?_
    first
    | (unfold puS at K; rw [if_pos (by omega)] at K; exact K _ ((sm_zp (by decide)).trans (sm_zp (by decide))) (by rw [zv_zp_ne (by decide), zv_zp_a (by decide)]) (PLr_push P (by omega) hv))
    | (unfold puS at K; rw [if_neg (by omega)] at K; exact K _ sm.refl rfl P)
theorem c_pop2 {d : Nat} {h : ab_H} {Q : ab_Q} {st : List Int} (P : PLr 28 h st) (K : ∀ h', sm [28, 31] h h' → zv h' 28 3 = zv h 28 3 → PLr 28 h' st.tail → Q (some (.int (iI (st.headD 0)))) h') : ab_X d mX7_pop 0 (lv_args 0 [.ref 28]) [] h Q := by
  show ab_X d mX7_pop 0 [(0, .ref 28)] [] h Q
  have hP2 := P.2.1
  have hP1 := P.1
  have hb4 := zv_R h 28 4
  refine ab_aload_n (k := 0) dX7_pop_0 rfl rfl ?_
  refine z_getI dX7_pop_1 fX7_31 rfl (Or.inl rfl) ?_
  have b1 := zv_R h 28 4
  refine z_if_gt (tgt := 9) dX7_pop_4 (by decide) (by omega) (fun c4 => ?_) (fun c4 => ?_)
  · skip
    refine ab_aload_n (k := 0) dX7_pop_9 rfl rfl ?_
    refine ab_dup dX7_pop_10 rfl ?_
    refine z_getI dX7_pop_11 fX7_31 rfl (Or.inl rfl) ?_
    have b2 := zv_R h 28 4
    refine z_iconst dX7_pop_14 ?_
    refine z_isub dX7_pop_15 ?_
    refine z_putI dX7_pop_16 fX7_31 rfl rfl ?_
    refine ab_aload_n (k := 0) dX7_pop_19 rfl rfl ?_
    refine z_getP (b := 31) dX7_pop_20 fX7_18 rfl rfl rfl ?_
    refine ab_aload_n (k := 0) dX7_pop_23 rfl rfl ?_
    refine z_getI dX7_pop_24 fX7_31 rfl (Or.inl rfl) ?_
    refine z_is (y := (zv h 28 4) - 1) (zv_zp_s (by omega)) ?_
    refine z_iald dX7_pop_27 rfl (by omega) (by omega) ?_
    refine z_is (y := zv h 31 ((zv h 28 4) - 1).toNat) (zv_zp_a (by decide)) ?_
    have b3 := zv_R h 31 ((zv h 28 4) - 1).toNat
    refine z_iret dX7_pop_28 rfl ?_
    first
    | (cases st with
       | nil => exact K _ sm.refl rfl P
       | cons v st => exfalso; rw [List.length_cons] at hP1; omega)
    | (cases st with
       | nil => exfalso; rw [List.length_nil] at hP1; omega
       | cons v st =>
         rw [List.length_cons] at hP1
         have e1 : zv h 28 4 - 1 = (st.length : Int) := by omega
         have e2 := PLr_pop P
         rw [e1]
         simp only [Int.toNat_natCast]
         rw [show zv h 31 st.length = v from e2.2]
         exact K _ (sm_zp (by decide)) (zv_zp_ne (by decide)) e2.1)
  · skip
    refine z_iconst dX7_pop_7 ?_
    refine z_iret dX7_pop_8 rfl ?_
    first
    | (cases st with
       | nil => exact K _ sm.refl rfl P
       | cons v st => exfalso; rw [List.length_cons] at hP1; omega)
    | (cases st with
       | nil => exfalso; rw [List.length_nil] at hP1; omega
       | cons v st =>
         rw [List.length_cons] at hP1
         have e1 : zv h 28 4 - 1 = (st.length : Int) := by omega
         have e2 := PLr_pop P
         rw [e1]
         simp only [Int.toNat_natCast]
         rw [show zv h 31 st.length = v from e2.2]
         exact K _ (sm_zp (by decide)) (zv_zp_ne (by decide)) e2.1)
theorem c_push3 {d : Nat} {h : ab_H} {Q : ab_Q} {v : Int} {st : List Int} (hv : inR v) (P : PLr 32 h st) (K : ∀ h', sm [32, 35] h h' → zv h' 32 3 = zv h 32 3 → PLr 32 h' (puS v st) → Q none h') : ab_X d mX7_push 0 (lv_args 0 [.ref 32, .int (iI v)]) [] h Q := by
  show ab_X d mX7_push 0 [(0, .ref 32), (1, .int (iI v))] [] h Q
  have hP2 := P.2.1
  refine ab_aload_n (k := 0) dX7_push_0 rfl rfl ?_
  refine z_getI dX7_push_1 fX7_31 rfl (Or.inl rfl) ?_
  refine z_is (y := ((st.length : Nat) : Int)) P.1 ?_
  refine z_bipush dX7_push_4 (by decide) ?_
  refine z_icmp_ge (tgt := 29) dX7_push_6 (by decide) (by omega) (by decide) (fun c6 => ?_) (fun c6 => ?_)
  · skip
    refine z_vret dX7_push_29 rfl ?_
    first
    | (unfold puS at K; rw [if_pos (by omega)] at K; exact K _ ((sm_zp (by decide)).trans (sm_zp (by decide))) (by rw [zv_zp_ne (by decide), zv_zp_a (by decide)]) (PLr_push P (by omega) hv))
    | (unfold puS at K; rw [if_neg (by omega)] at K; exact K _ sm.refl rfl P)
  · skip
    refine ab_aload_n (k := 0) dX7_push_9 rfl rfl ?_
    refine z_getP (b := 35) dX7_push_10 fX7_18 rfl rfl rfl ?_
    refine ab_aload_n (k := 0) dX7_push_13 rfl rfl ?_
    refine z_getI dX7_push_14 fX7_31 rfl (Or.inl rfl) ?_
    refine z_is (y := ((st.length : Nat) : Int)) P.1 ?_
    refine ab_iload_n (k := 1) dX7_push_17 rfl rfl ?_
    refine z_iast dX7_push_18 rfl (by omega) (by omega) ?_
    simp only [Int.toNat_natCast]
    refine ab_aload_n (k := 0) dX7_push_19 rfl rfl ?_
    refine ab_dup dX7_push_20 rfl ?_
    refine z_getI dX7_push_21 fX7_31 rfl (Or.inl rfl) ?_
    refine z_is (y := zv h 32 4) (zv_zp_a (by decide)) ?_
    refine z_is (y := ((st.length : Nat) : Int)) P.1 ?_
    refine z_iconst dX7_push_24 ?_
    refine z_iadd dX7_push_25 ?_
    refine z_putI dX7_push_26 fX7_31 rfl rfl ?_
    refine z_vret dX7_push_29 rfl ?_
    first
    | (unfold puS at K; rw [if_pos (by omega)] at K; exact K _ ((sm_zp (by decide)).trans (sm_zp (by decide))) (by rw [zv_zp_ne (by decide), zv_zp_a (by decide)]) (PLr_push P (by omega) hv))
    | (unfold puS at K; rw [if_neg (by omega)] at K; exact K _ sm.refl rfl P)
theorem c_pop3 {d : Nat} {h : ab_H} {Q : ab_Q} {st : List Int} (P : PLr 32 h st) (K : ∀ h', sm [32, 35] h h' → zv h' 32 3 = zv h 32 3 → PLr 32 h' st.tail → Q (some (.int (iI (st.headD 0)))) h') : ab_X d mX7_pop 0 (lv_args 0 [.ref 32]) [] h Q := by
  show ab_X d mX7_pop 0 [(0, .ref 32)] [] h Q
  have hP2 := P.2.1
  have hP1 := P.1
  have hb4 := zv_R h 32 4
  refine ab_aload_n (k := 0) dX7_pop_0 rfl rfl ?_
  refine z_getI dX7_pop_1 fX7_31 rfl (Or.inl rfl) ?_
  have b1 := zv_R h 32 4
  refine z_if_gt (tgt := 9) dX7_pop_4 (by decide) (by omega) (fun c4 => ?_) (fun c4 => ?_)
  · skip
    refine ab_aload_n (k := 0) dX7_pop_9 rfl rfl ?_
    refine ab_dup dX7_pop_10 rfl ?_
    refine z_getI dX7_pop_11 fX7_31 rfl (Or.inl rfl) ?_
    have b2 := zv_R h 32 4
    refine z_iconst dX7_pop_14 ?_
    refine z_isub dX7_pop_15 ?_
    refine z_putI dX7_pop_16 fX7_31 rfl rfl ?_
    refine ab_aload_n (k := 0) dX7_pop_19 rfl rfl ?_
    refine z_getP (b := 35) dX7_pop_20 fX7_18 rfl rfl rfl ?_
    refine ab_aload_n (k := 0) dX7_pop_23 rfl rfl ?_
    refine z_getI dX7_pop_24 fX7_31 rfl (Or.inl rfl) ?_
    refine z_is (y := (zv h 32 4) - 1) (zv_zp_s (by omega)) ?_
    refine z_iald dX7_pop_27 rfl (by omega) (by omega) ?_
    refine z_is (y := zv h 35 ((zv h 32 4) - 1).toNat) (zv_zp_a (by decide)) ?_
    have b3 := zv_R h 35 ((zv h 32 4) - 1).toNat
    refine z_iret dX7_pop_28 rfl ?_
    first
    | (cases st with
       | nil => exact K _ sm.refl rfl P
       | cons v st => exfalso; rw [List.length_cons] at hP1; omega)
    | (cases st with
       | nil => exfalso; rw [List.length_nil] at hP1; omega
       | cons v st =>
         rw [List.length_cons] at hP1
         have e1 : zv h 32 4 - 1 = (st.length : Int) := by omega
         have e2 := PLr_pop P
         rw [e1]
         simp only [Int.toNat_natCast]
         rw [show zv h 35 st.length = v from e2.2]
         exact K _ (sm_zp (by decide)) (zv_zp_ne (by decide)) e2.1)
  · skip
    refine z_iconst dX7_pop_7 ?_
    refine z_iret dX7_pop_8 rfl ?_
    first
    | (cases st with
       | nil => exact K _ sm.refl rfl P
       | cons v st => exfalso; rw [List.length_cons] at hP1; omega)
    | (cases st with
       | nil => exfalso; rw [List.length_nil] at hP1; omega
       | cons v st =>
         rw [List.length_cons] at hP1
         have e1 : zv h 32 4 - 1 = (st.length : Int) := by omega
         have e2 := PLr_pop P
         rw [e1]
         simp only [Int.toNat_natCast]
         rw [show zv h 35 st.length = v from e2.2]
         exact K _ (sm_zp (by decide)) (zv_zp_ne (by decide)) e2.1)
