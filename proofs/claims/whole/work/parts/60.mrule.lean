/-! THE MODEL READS A RULE: atoms, terms, sums -/
def mdI (T : Nat → Int) (z t b n : Nat) (env : Nat → Int) (M : ab_M) (As : List Value) (f : Nat → pR) (D B d : Nat) : Prop := ∀ (h0 h : ab_H) (Q : ab_Q) (p : Nat), MX T z t b n env h0 → ML z h0 h p D → (∀ h' p' c' v, f p = (-1, p', c') → p ≤ p' → (-1000000 ≤ v ∧ v ≤ 1000000) → evp env [] c' v B → ML z h0 h' p' D → Q (some (.int (iI v))) h') → (∀ h' v w, (f p).1 = w → ¬ w = -1 → inR v → MD z h0 h' w → Q (some (.int (iI v))) h') → ab_X d M 0 (lv_args 0 As) [] h Q
def mdB (T : Nat → Int) (z t b n : Nat) (env : Nat → Int) (pre : List Int) (M : ab_M) (As : List Value) (f : Nat → pR) (D B d : Nat) : Prop := ∀ (h0 h : ab_H) (Q : ab_Q) (p : Nat), MX T z t b n env h0 → ML z h0 h p D → (∀ h' p' c' v, f p = (-1, p', c') → p ≤ p' → (v = 0 ∨ v = 1) → evp env pre c' v B → ML z h0 h' p' D → Q (some (.int (iI v))) h') → (∀ h' v w, (f p).1 = w → ¬ w = -1 → (v = 0 ∨ v = 1) → MD z h0 h' w → Q (some (.int (iI v))) h') → ab_X d M 0 (lv_args 0 As) [] h Q
theorem li_b {s : Int} (h : ¬ li s = -1) : 97 ≤ s ∧ s ≤ 112 ∧ ¬ s = 91 ∧ 0 ≤ li s ∧ li s < 5 := by
  unfold li at h ⊢
  (repeat' split at h) <;> (repeat' split) <;> omega
theorem lp_matom {d : Nat} {Q : ab_Q} {h0 : ab_H} {T : Nat → Int} {z t b n : Nat} {env : Nat → Int} {q D : Nat} {s : Int}  (ht : tx T z) (hx0 : MX T z t b n env h0) (hd0 : dg T z q) (k1 : ∀ h', ¬ dg T z (nmb T z 4 q 0).1 → ML z h0 h' (nmb T z 4 q 0).1 D → Q (some (.int (iI (nmb T z 4 q 0).2))) h') (k0 : ∀ h', dg T z (nmb T z 4 q 0).1 → MD z h0 h' (((nmb T z 4 q 0).1 : Nat) : Int) → Q (some (.int (iI 0))) h') : ∀ (nn : Nat) (p : Nat) (i : Nat) (v : Int) (h : ab_H), 4 - i = nn → (i ≤ 4) → (ML z h0 h p D) → (0 ≤ v ∧ v ≤ 9999) → (i < 4 → v ≤ 999) → (i < 3 → v ≤ 99) → (i < 2 → v ≤ 9) → (i < 1 → v ≤ 0) → (nmb T z (4 - i) p v = nmb T z 4 q 0) → ab_X (d + 5) mX12_atom 90 [(0, .ref 200), (1, .int (iI s)), (2, .int (iI v)), (3, .int (iI (i : Int)))] [] h Q := by
  intro nn
  induction nn using Nat.strongRecOn with
  | ind nn ih =>
  intro p i v h hnn hi Sh hv hvi hvj hvk hvl hn
  have hz := ht.1
  have hx := MX_F hx0 Sh.1
  have hk := hx.2.2.2.2.1
  have hbn := hx.2.2.2.2.2.1
  have hn1 := hx.2.2.2.2.2.2.1
  have hpz := Sh.2.2.2.2.1
  refine ab_aload_n (k := 0) dX12_atom_90 rfl rfl ?_
  refine ab_callV (As := []) (rest := []) dX12_atom_91 lX12_183 rfl (Nat.le_of_ble_eq_true rfl) (Nat.le_of_ble_eq_true rfl) rfl ?_
  refine c_misDigit ht hx0 Sh (fun g91 => ?_) (fun g91 => ?_)
  · skip
    show ab_X (d + 5) mX12_atom 94 [(0, .ref 200), (1, .int (iI s)), (2, .int (iI v)), (3, .int (iI (i : Int)))] [.int (iI 1)] h _
    refine z_if_eq (tgt := 156) dX12_atom_94 (by decide) (by decide) (fun c94 => absurd c94 (by decide)) (fun _ => ?_)
    refine ab_aload_n (k := 0) dX12_atom_97 rfl rfl ?_
    refine z_getI dX12_atom_98 fX12_143 rfl (Or.inl rfl) ?_
    refine z_is (y := (-1)) Sh.2.2.1 ?_
    refine z_iconst dX12_atom_101 ?_
    refine z_icmp_ne (tgt := 156) dX12_atom_102 (by decide) (by decide) (by decide) (fun c102 => absurd c102 (by decide)) (fun _ => ?_)
    refine ab_iload_n (k := 3) dX12_atom_105 rfl rfl ?_
    refine z_iconst dX12_atom_106 ?_
    refine z_icmp_ne (tgt := 117) dX12_atom_107 (by decide) (by omega) (by decide) (fun c107 => ?_) (fun c107 => ?_)
    · skip
      refine z_bipush dX12_atom_117 (by decide) ?_
      refine ab_iload_n (k := 2) dX12_atom_119 rfl rfl ?_
      refine z_imul dX12_atom_120 ?_
      refine ab_aload_n (k := 0) dX12_atom_121 rfl rfl ?_
      refine z_getP (b := t) dX12_atom_122 fX12_23 rfl rfl (mtx hx) ?_
      refine ab_aload_n (k := 0) dX12_atom_125 rfl rfl ?_
      refine z_getI dX12_atom_126 fX12_140 rfl (Or.inl rfl) ?_
      refine z_is (y := (b : Int)) (MX_F hx0 Sh.1).2.1 ?_
      refine ab_aload_n (k := 0) dX12_atom_129 rfl rfl ?_
      refine z_getI dX12_atom_130 fX12_134 rfl (Or.inl rfl) ?_
      refine z_is (y := ((p : Nat) : Int)) Sh.2.1 ?_
      refine z_iadd dX12_atom_133 ?_
      refine z_bald dX12_atom_134 (Or.inl hk) (by omega) (by omega) ?_
      refine z_is (y := sby (T p)) (mby hx (by omega)) ?_
      refine z_iadd dX12_atom_135 ?_
      have hT := ht.2 p (by omega)
      have hTs := sby_c hT
      refine z_bipush dX12_atom_136 (by decide) ?_
      refine z_isub dX12_atom_138 ?_
      refine ab_istore_n (ls' := [(2, .int (iI (((10 * v) + (sby (T p))) - 48))), (0, .ref 200), (1, .int (iI s)), (3, .int (iI (i : Int)))]) dX12_atom_139 rfl (by decide) rfl ?_
      refine ab_aload_n (k := 1) dX12_atom_140 rfl rfl ?_
      refine ab_dup dX12_atom_141 rfl ?_
      refine z_getI dX12_atom_142 fX12_134 rfl (Or.inl rfl) ?_
      refine z_is (y := ((p : Nat) : Int)) Sh.2.1 ?_
      refine z_iconst dX12_atom_145 ?_
      refine z_iadd dX12_atom_146 ?_
      refine z_putI dX12_atom_147 fX12_134 rfl rfl ?_
      obtain ⟨n147, en147⟩ : ∃ zz : ab_H, zz = zp h 200 10 (((p : Nat) : Int) + 1) := ⟨_, rfl⟩
      rw [← en147]
      have Sn147 : ML z h0 n147 (p + 1) D := by rw [en147]; exact ML_at Sh hz (by omega) (by omega)
      refine z_iinc (k := 3) (v := (i : Int) + 1) (ls' := [(3, .int (iI ((i : Int) + 1))), (2, .int (iI (((10 * v) + (sby (T p))) - 48))), (0, .ref 200), (1, .int (iI s))]) dX12_atom_150 rfl rfl (by decide) rfl ?_
      refine ab_goto (tgt := 90) dX12_atom_153 (by decide) ?_
      refine ab_sub (ls' := [(0, .ref 200), (1, .int (iI s)), (2, .int (iI (((10 * v) + (sby (T p))) - 48))), (3, .int (iI ((i : Int) + 1)))]) (ks := [2, 3, 1, 0]) rfl ?_
      refine ih _ (by omega) (p + 1) (i + 1) _ _ rfl (by omega) Sn147 (by omega) (by omega) (by omega) (by omega) (by omega) ?_
      rw [← hn, show 4 - i = (4 - (i + 1)) + 1 by omega, nmb_t (by assumption)]
      congr 1; omega
    · skip
      refine ab_aload_n (k := 0) dX12_atom_110 rfl rfl ?_
      refine ab_callV (As := []) (rest := []) dX12_atom_111 lX12_149 rfl (Nat.le_of_ble_eq_true rfl) (Nat.le_of_ble_eq_true rfl) rfl ?_
      refine c_mfails ht hx0 Sh (fun e111 Se111 => ?_)
      show ab_X (d + 5) mX12_atom 114 [(0, .ref 200), (1, .int (iI s)), (2, .int (iI v)), (3, .int (iI (i : Int)))] [.int (iI 0)] e111 _
      refine ab_pop dX12_atom_114 rfl ?_
      refine z_iconst dX12_atom_115 ?_
      refine z_iret dX12_atom_116 rfl ?_
      have e : nmb T z (4 - i) p v = (p, v) := by
        first
        | (rw [show 4 - i = 0 by omega, nmb_0])
        | exact nmb_f (by assumption)
      have e1 : (nmb T z 4 q 0).1 = p := by rw [← hn, e]
      have e2 : (nmb T z 4 q 0).2 = v := by rw [← hn, e]
      rw [e1, e2] at k1
      rw [e1] at k0
      exact k0 _ (by assumption) Se111
  · skip
    show ab_X (d + 5) mX12_atom 94 [(0, .ref 200), (1, .int (iI s)), (2, .int (iI v)), (3, .int (iI (i : Int)))] [.int (iI 0)] h _
    refine z_if_eq (tgt := 156) dX12_atom_94 (by decide) (by decide) (fun _ => ?_) (fun c94 => absurd c94 (by decide))
    refine ab_iload_n (k := 2) dX12_atom_156 rfl rfl ?_
    refine z_iret dX12_atom_157 rfl ?_
    have e : nmb T z (4 - i) p v = (p, v) := by
      first
      | (rw [show 4 - i = 0 by omega, nmb_0])
      | exact nmb_f (by assumption)
    have e1 : (nmb T z 4 q 0).1 = p := by rw [← hn, e]
    have e2 : (nmb T z 4 q 0).2 = v := by rw [← hn, e]
    rw [e1, e2] at k1
    rw [e1] at k0
    exact k1 _ (by assumption) Sh
theorem dl_matom {d : Nat} {h : ab_H} {Q : ab_Q} {T : Nat → Int} {z t b n : Nat} {env : Nat → Int} {h0 : ab_H} {w s : Int}  (ht : tx T z) (hx0 : MX T z t b n env h0) (Seh : MD z h0 h w) (K : Q (some (.int (iI 0))) h) : ab_X (d + 5) mX12_atom 90 [(0, .ref 200), (1, .int (iI s)), (2, .int (iI 0)), (3, .int (iI 0))] [] h Q := by
  refine ab_aload_n (k := 0) dX12_atom_90 rfl rfl ?_
  refine ab_callV (As := []) (rest := []) dX12_atom_91 lX12_183 rfl (Nat.le_of_ble_eq_true rfl) (Nat.le_of_ble_eq_true rfl) rfl ?_
  refine c_misDigitD ht hx0 Seh ?_ ?_
  · skip
    show ab_X (d + 5) mX12_atom 94 [(0, .ref 200), (1, .int (iI s)), (2, .int (iI 0)), (3, .int (iI 0))] [.int (iI 1)] h _
    refine z_if_eq (tgt := 156) dX12_atom_94 (by decide) (by decide) (fun c94 => absurd c94 (by decide)) (fun _ => ?_)
    refine ab_aload_n (k := 0) dX12_atom_97 rfl rfl ?_
    refine z_getI dX12_atom_98 fX12_143 rfl (Or.inl rfl) ?_
    have b1 := zv_R h 200 11
    refine z_iconst dX12_atom_101 ?_
    refine z_icmp_ne (tgt := 156) dX12_atom_102 (by decide) (by omega) (by decide) (fun c102 => ?_) (fun c102 => absurd c102 (fun q => Seh.2.2.1 (Seh.2.1.symm.trans q)))
    refine ab_iload_n (k := 2) dX12_atom_156 rfl rfl ?_
    refine z_iret dX12_atom_157 rfl ?_
    exact K
  · skip
    show ab_X (d + 5) mX12_atom 94 [(0, .ref 200), (1, .int (iI s)), (2, .int (iI 0)), (3, .int (iI 0))] [.int (iI 0)] h _
    refine z_if_eq (tgt := 156) dX12_atom_94 (by decide) (by decide) (fun _ => ?_) (fun c94 => absurd c94 (by decide))
    refine ab_iload_n (k := 2) dX12_atom_156 rfl rfl ?_
    refine z_iret dX12_atom_157 rfl ?_
    exact K
theorem c_matom0 {d : Nat} {h : ab_H} {Q : ab_Q} {T : Nat → Int} {z t b n : Nat} {env : Nat → Int} {h0 : ab_H} {p D : Nat} {B : Nat} {sub : Option (Nat → pR)}  (ht : tx T z) (hx0 : MX T z t b n env h0) (hs1 : D < 6 → ∃ g, sub = some g ∧ mdI T z t b n env mX12_sum [.ref 200] g (D + 1) B (d + 4)) (hs0 : D = 6 → sub = none) (hB : 1 ≤ B) (Sh : ML z h0 h p D) (K1 : ∀ h' p' c' v, atomF T z sub p = (-1, p', c') → p ≤ p' → (-1000000 ≤ v ∧ v ≤ 1000000) → evp env [] c' v B → ML z h0 h' p' D → Q (some (.int (iI v))) h') (K0 : ∀ h' v w, (atomF T z sub p).1 = w → ¬ w = -1 → inR v → MD z h0 h' w → Q (some (.int (iI v))) h') : ab_X (d + 5) mX12_atom 0 (lv_args 0 [.ref 200]) [] h Q := by
  show ab_X (d + 5) mX12_atom 0 [(0, .ref 200)] [] h Q
  have hz := ht.1
  have hx := MX_F hx0 Sh.1
  have hk := hx.2.2.2.2.1
  have hbn := hx.2.2.2.2.2.1
  have hn1 := hx.2.2.2.2.2.2.1
  have hpz := Sh.2.2.2.2.1
  have hD6 := Sh.2.2.2.2.2
  refine ab_aload_n (k := 0) dX12_atom_0 rfl rfl ?_
  refine ab_callV (As := []) (rest := []) dX12_atom_1 lX12_153 rfl (Nat.le_of_ble_eq_true rfl) (Nat.le_of_ble_eq_true rfl) rfl ?_
  refine c_mlook ht hx0 Sh (fun l1 Sl1 => ?_)
  have k1 := lk_ge T z p
  have y1 := sg_b ht p
  show ab_X (d + 5) mX12_atom 4 [(0, .ref 200)] [.int (iI (sg T z p))] l1 _
  refine ab_istore_n (ls' := [(1, .int (iI (sg T z p))), (0, .ref 200)]) dX12_atom_4 rfl (by decide) rfl ?_
  refine ab_ldcs (j := 3) dX12_atom_5 (by decide) ?_
  refine ab_iload_n (k := 0) dX12_atom_7 rfl rfl ?_
  refine ab_callS (As := [.ref (2000 + 3), .int (iI (sg T z p))]) (rest := []) dX12_atom_8 lX12_169 (Nat.le_of_ble_eq_true rfl) (Nat.le_of_ble_eq_true rfl) rfl ?_
  refine c_isAmong3 (by omega) (fun g8 => ?_) (fun g8 => ?_)
  · skip
    have lb8 := li_b g8
    have z8 := sg_in (T := T) (z := z) (p := p) (by omega)
    show ab_X (d + 5) mX12_atom 11 [(1, .int (iI (sg T z p))), (0, .ref 200)] [.int (iI 1)] l1 _
    refine z_if_eq (tgt := 31) dX12_atom_11 (by decide) (by decide) (fun c11 => absurd c11 (by decide)) (fun _ => ?_)
    refine ab_aload_n (k := 1) dX12_atom_14 rfl rfl ?_
    refine ab_dup dX12_atom_15 rfl ?_
    refine z_getI dX12_atom_16 fX12_134 rfl (Or.inl rfl) ?_
    refine z_is (y := (((lk T z p) : Nat) : Int)) Sl1.2.1 ?_
    refine z_iconst dX12_atom_19 ?_
    refine z_iadd dX12_atom_20 ?_
    refine z_putI dX12_atom_21 fX12_134 rfl rfl ?_
    obtain ⟨n21, en21⟩ : ∃ zz : ab_H, zz = zp l1 200 10 ((((lk T z p) : Nat) : Int) + 1) := ⟨_, rfl⟩
    rw [← en21]
    have Sn21 : ML z h0 n21 ((lk T z p) + 1) D := by rw [en21]; exact ML_at Sl1 hz (by omega) (by omega)
    refine ab_aload_n (k := 1) dX12_atom_24 rfl rfl ?_
    refine z_getP (b := 204) dX12_atom_25 fX12_20 rfl rfl rfl ?_
    have y28 : 0 ≤ sg T z p ∧ sg T z p < 128 := by omega
    refine ab_iload_n (k := 0) dX12_atom_28 rfl rfl ?_
    refine z_iald dX12_atom_29 rfl (by omega) (by omega) ?_
    refine z_is (y := env (li (sg T z p)).toNat) ((MX_F hx0 Sn21.1).2.2.2.2.2.2.2 _ g8).1 ?_
    refine z_iret dX12_atom_30 rfl ?_
    have lt := (MX_F hx0 Sn21.1).2.2.2.2.2.2.2 _ g8
    exact K1 _ _ _ _ (atom_l (by omega) rfl g8) (by omega) lt.2 (evp_mono (evp_let (by omega)) (by omega)) Sn21
  · skip
    show ab_X (d + 5) mX12_atom 11 [(1, .int (iI (sg T z p))), (0, .ref 200)] [.int (iI 0)] l1 _
    refine z_if_eq (tgt := 31) dX12_atom_11 (by decide) (by decide) (fun _ => ?_) (fun c11 => absurd c11 (by decide))
    refine ab_iload_n (k := 0) dX12_atom_31 rfl rfl ?_
    refine z_bipush dX12_atom_32 (by decide) ?_
    refine z_icmp_ne (tgt := 74) dX12_atom_34 (by decide) (by omega) (by decide) (fun c34 => ?_) (fun c34 => ?_)
    · skip
      refine ab_aload_n (k := 1) dX12_atom_74 rfl rfl ?_
      refine ab_callV (As := []) (rest := []) dX12_atom_75 lX12_183 rfl (Nat.le_of_ble_eq_true rfl) (Nat.le_of_ble_eq_true rfl) rfl ?_
      refine c_misDigit ht hx0 Sl1 (fun g75 => ?_) (fun g75 => ?_)
      · skip
        show ab_X (d + 5) mX12_atom 78 [(1, .int (iI (sg T z p))), (0, .ref 200)] [.int (iI 1)] l1 _
        refine z_if_ne (tgt := 86) dX12_atom_78 (by decide) (by decide) (fun _ => ?_) (fun c78 => absurd c78 (by decide))
        refine z_iconst dX12_atom_86 ?_
        refine ab_istore_n (ls' := [(2, .int (iI 0)), (1, .int (iI (sg T z p))), (0, .ref 200)]) dX12_atom_87 rfl (by decide) rfl ?_
        refine z_iconst dX12_atom_88 ?_
        refine ab_istore_n (ls' := [(3, .int (iI 0)), (2, .int (iI 0)), (1, .int (iI (sg T z p))), (0, .ref 200)]) dX12_atom_89 rfl (by decide) rfl ?_
        refine ab_sub (ls' := [(0, .ref 200), (1, .int (iI (sg T z p))), (2, .int (iI 0)), (3, .int (iI 0))]) (ks := [3, 2, 1, 0]) rfl ?_
        have hli : li (sg T z p) = -1 := g8
        have hd0 : dg T z (lk T z p) := by assumption
        have hb := nmb_v (T := T) (z := z) 4 (lk T z p) 0 1 (by omega)
        have hb2 := nmb_p (T := T) (z := z) 4 (lk T z p) 0 (by omega)
        refine lp_matom (q := lk T z p) ht hx0 hd0 (fun h' a S' => K1 _ _ _ _ ((atom_n (by omega) hli).trans (by unfold pNum; rw [if_pos hd0, if_neg a])) (by omega) (by omega) (evp_mono evp_num (by omega)) S') (fun h' a S' => K0 _ 0 _ ((congrArg Prod.fst (atom_n (by omega) hli)).trans (by unfold pNum; rw [if_pos hd0, if_pos a]; rfl)) (by omega) (by omega) S') _ (lk T z p) 0 0 _ rfl (by omega) Sl1 (by omega) (by omega) (by omega) (by omega) (by omega) rfl
      · skip
        show ab_X (d + 5) mX12_atom 78 [(1, .int (iI (sg T z p))), (0, .ref 200)] [.int (iI 0)] l1 _
        refine z_if_ne (tgt := 86) dX12_atom_78 (by decide) (by decide) (fun c78 => absurd c78 (by decide)) (fun _ => ?_)
        refine ab_aload_n (k := 1) dX12_atom_81 rfl rfl ?_
        refine ab_callV (As := []) (rest := []) dX12_atom_82 lX12_149 rfl (Nat.le_of_ble_eq_true rfl) (Nat.le_of_ble_eq_true rfl) rfl ?_
        refine c_mfails ht hx0 Sl1 (fun e82 Se82 => ?_)
        show ab_X (d + 5) mX12_atom 85 [(1, .int (iI (sg T z p))), (0, .ref 200)] [.int (iI 0)] e82 _
        refine ab_pop dX12_atom_85 rfl ?_
        refine z_iconst dX12_atom_86 ?_
        refine ab_istore_n (ls' := [(2, .int (iI 0)), (1, .int (iI (sg T z p))), (0, .ref 200)]) dX12_atom_87 rfl (by decide) rfl ?_
        refine z_iconst dX12_atom_88 ?_
        refine ab_istore_n (ls' := [(3, .int (iI 0)), (2, .int (iI 0)), (1, .int (iI (sg T z p))), (0, .ref 200)]) dX12_atom_89 rfl (by decide) rfl ?_
        refine ab_sub (ls' := [(0, .ref 200), (1, .int (iI (sg T z p))), (2, .int (iI 0)), (3, .int (iI 0))]) (ks := [3, 2, 1, 0]) rfl ?_
        have hli : li (sg T z p) = -1 := g8
        exact dl_matom ht hx0 Se82 (K0 _ 0 _ ((congrArg Prod.fst (atom_n (by omega) hli)).trans (by unfold pNum; rw [if_neg (by assumption)]; rfl)) (by omega) (by omega) Se82)
    · skip
      refine ab_aload_n (k := 1) dX12_atom_37 rfl rfl ?_
      refine ab_callV (As := []) (rest := []) dX12_atom_38 lX12_173 rfl (Nat.le_of_ble_eq_true rfl) (Nat.le_of_ble_eq_true rfl) rfl ?_
      have z38 := sg_in (T := T) (z := z) (p := p) (by omega)
      refine c_mgoesIn ht hx0 Sl1 (by omega) (fun D38 l38 Sl38 => ?_) (fun D38 e38 Se38 => ?_)
      · skip
        show ab_X (d + 5) mX12_atom 41 [(1, .int (iI (sg T z p))), (0, .ref 200)] [.int (iI 1)] l38 _
        refine z_if_ne (tgt := 46) dX12_atom_41 (by decide) (by decide) (fun _ => ?_) (fun c41 => absurd c41 (by decide))
        refine ab_aload_n (k := 1) dX12_atom_46 rfl rfl ?_
        refine ab_callV (As := []) (rest := []) dX12_atom_47 lX12_176 rfl (Nat.le_of_ble_eq_true rfl) (Nat.le_of_ble_eq_true rfl) rfl ?_
        obtain ⟨g, hg, hS⟩ := hs1 (by omega)
        refine hS h0 _ _ _ hx0 Sl38 (fun l47 p47 c47 v47 j47 b47 vb47 ev47 Sl47 => ?_) (fun e47 v47 w47 j47 n47 vb47 Se47 => ?_)
        · skip
          have r47 := Sl47.2.2.2.2.1
          show ab_X (d + 5) mX12_atom 50 [(1, .int (iI (sg T z p))), (0, .ref 200)] [.int (iI v47)] l47 _
          refine ab_istore_n (ls' := [(2, .int (iI v47)), (1, .int (iI (sg T z p))), (0, .ref 200)]) dX12_atom_50 rfl (by decide) rfl ?_
          refine ab_aload_n (k := 2) dX12_atom_51 rfl rfl ?_
          refine z_bipush dX12_atom_52 (by decide) ?_
          refine ab_callV (As := [.int (iI 93)]) (rest := []) dX12_atom_54 lX12_179 rfl (Nat.le_of_ble_eq_true rfl) (Nat.le_of_ble_eq_true rfl) rfl ?_
          have k54 := lk_ge T z p47
          refine c_mtakes ht hx0 (by decide) Sl47 (fun x54 l54 Sl54 => ?_) (fun x54 e54 Se54 => ?_)
          · skip
            have b54 := Sl54.2.2.2.2.1
            show ab_X (d + 5) mX12_atom 57 [(2, .int (iI v47)), (1, .int (iI (sg T z p))), (0, .ref 200)] [.int (iI 1)] l54 _
            refine z_if_ne (tgt := 62) dX12_atom_57 (by decide) (by decide) (fun _ => ?_) (fun c57 => absurd c57 (by decide))
            refine ab_aload_n (k := 2) dX12_atom_62 rfl rfl ?_
            refine ab_dup dX12_atom_63 rfl ?_
            refine z_getI dX12_atom_64 fX12_146 rfl (Or.inl rfl) ?_
            refine z_is (y := (((D + 1) : Nat) : Int)) Sl54.2.2.2.1 ?_
            refine z_iconst dX12_atom_67 ?_
            refine z_isub dX12_atom_68 ?_
            refine z_putI dX12_atom_69 fX12_146 rfl rfl ?_
            obtain ⟨n69, en69⟩ : ∃ zz : ab_H, zz = zp l54 200 12 ((((D + 1) : Nat) : Int) - 1) := ⟨_, rfl⟩
            rw [← en69]
            have Sn69 : ML z h0 n69 (lk T z p47 + 1) D := by rw [en69]; exact ML_dp Sl54 (by omega) (by omega)
            refine ab_iload_n (k := 0) dX12_atom_72 rfl rfl ?_
            refine z_iret dX12_atom_73 rfl ?_
            exact K1 _ _ c47 v47 (atom_1 (by omega) hg j47 x54) (by omega) vb47 (evp_mono ev47 (by omega)) Sn69
          · skip
            show ab_X (d + 5) mX12_atom 57 [(2, .int (iI v47)), (1, .int (iI (sg T z p))), (0, .ref 200)] [.int (iI 0)] e54 _
            refine z_if_ne (tgt := 62) dX12_atom_57 (by decide) (by decide) (fun c57 => absurd c57 (by decide)) (fun _ => ?_)
            refine z_iconst dX12_atom_60 ?_
            refine z_iret dX12_atom_61 rfl ?_
            exact K0 _ 0 _ (atom_2 (by omega) hg j47 x54) (by omega) (by omega) Se54
        · skip
          show ab_X (d + 5) mX12_atom 50 [(1, .int (iI (sg T z p))), (0, .ref 200)] [.int (iI v47)] e47 _
          refine ab_istore_n (ls' := [(2, .int (iI v47)), (1, .int (iI (sg T z p))), (0, .ref 200)]) dX12_atom_50 rfl (by decide) rfl ?_
          refine ab_aload_n (k := 2) dX12_atom_51 rfl rfl ?_
          refine z_bipush dX12_atom_52 (by decide) ?_
          refine ab_callV (As := [.int (iI 93)]) (rest := []) dX12_atom_54 lX12_179 rfl (Nat.le_of_ble_eq_true rfl) (Nat.le_of_ble_eq_true rfl) rfl ?_
          refine c_mtakesD Se47 ?_
          show ab_X (d + 5) mX12_atom 57 [(2, .int (iI v47)), (1, .int (iI (sg T z p))), (0, .ref 200)] [.int (iI 0)] e47 _
          refine z_if_ne (tgt := 62) dX12_atom_57 (by decide) (by decide) (fun c57 => absurd c57 (by decide)) (fun _ => ?_)
          refine z_iconst dX12_atom_60 ?_
          refine z_iret dX12_atom_61 rfl ?_
          exact K0 _ 0 _ (atom_3 (by omega) hg j47 n47) n47 (by omega) Se47
      · skip
        show ab_X (d + 5) mX12_atom 41 [(1, .int (iI (sg T z p))), (0, .ref 200)] [.int (iI 0)] e38 _
        refine z_if_ne (tgt := 46) dX12_atom_41 (by decide) (by decide) (fun c41 => absurd c41 (by decide)) (fun _ => ?_)
        refine z_iconst dX12_atom_44 ?_
        refine z_iret dX12_atom_45 rfl ?_
        exact K0 _ 0 _ (atom_4 (by omega) (hs0 D38)) (by omega) (by omega) Se38
theorem dl_mterm {d : Nat} {h : ab_H} {Q : ab_Q} {T : Nat → Int} {z t b n : Nat} {env : Nat → Int} {h0 : ab_H} {w v : Int}  (Seh : MD z h0 h w) (K : Q (some (.int (iI v))) h) : ab_X (d + 6) mX12_term 5 [(0, .ref 200), (1, .int (iI v))] [] h Q := by
  refine ab_aload_n (k := 0) dX12_term_5 rfl rfl ?_
  refine z_getI dX12_term_6 fX12_143 rfl (Or.inl rfl) ?_
  have b1 := zv_R h 200 11
  refine z_iconst dX12_term_9 ?_
  refine z_icmp_ne (tgt := 94) dX12_term_10 (by decide) (by omega) (by decide) (fun c10 => ?_) (fun c10 => absurd c10 (fun q => Seh.2.2.1 (Seh.2.1.symm.trans q)))
  refine ab_iload_n (k := 1) dX12_term_94 rfl rfl ?_
  refine z_iret dX12_term_95 rfl ?_
  exact K
theorem lp_mterm {d : Nat} {Q : ab_Q} {h0 : ab_H} {T : Nat → Int} {z t b n : Nat} {env : Nat → Int} {p0 D B : Nat} {nx : Nat → pR} {R : pR}  (ht : tx T z) (hx0 : MX T z t b n env h0) (hN : mdI T z t b n env mX12_atom [.ref 200] nx D B (d + 5)) (K1 : ∀ h' p' c' v, R = (-1, p', c') → p0 ≤ p' → (-1000000 ≤ v ∧ v ≤ 1000000) → evp env [] c' v (B + 1) → ML z h0 h' p' D → Q (some (.int (iI v))) h') (K0 : ∀ h' v w, R.1 = w → ¬ w = -1 → inR v → MD z h0 h' w → Q (some (.int (iI v))) h') : ∀ (nn : Nat) (q : Nat) (i : Nat) (c1 : List (Int × Int)) (v : Int) (h : ab_H), 160 - i = nn → (ML z h0 h q D) → (i ≤ 160) → (i ≤ q) → (p0 ≤ q) → (-1000000 ≤ v ∧ v ≤ 1000000) → (evp env [] c1 v (B + 1)) → (seqL T z nx 42 47 4 5 (160 - i) q c1 = R) → ab_X (d + 6) mX12_term 5 [(0, .ref 200), (1, .int (iI v))] [] h Q := by
  intro nn
  induction nn using Nat.strongRecOn with
  | ind nn ih =>
  intro q i c1 v h hnn Sh hi hiq hpq hv hev hR
  have hz := ht.1
  have hx := MX_F hx0 Sh.1
  have hk := hx.2.2.2.2.1
  have hbn := hx.2.2.2.2.2.1
  have hn1 := hx.2.2.2.2.2.2.1
  have hpz := Sh.2.2.2.2.1
  refine ab_aload_n (k := 0) dX12_term_5 rfl rfl ?_
  refine z_getI dX12_term_6 fX12_143 rfl (Or.inl rfl) ?_
  refine z_is (y := (-1)) Sh.2.2.1 ?_
  refine z_iconst dX12_term_9 ?_
  refine z_icmp_ne (tgt := 94) dX12_term_10 (by decide) (by decide) (by decide) (fun c10 => absurd c10 (by decide)) (fun _ => ?_)
  refine ab_aload_n (k := 0) dX12_term_13 rfl rfl ?_
  refine ab_callV (As := []) (rest := []) dX12_term_14 lX12_153 rfl (Nat.le_of_ble_eq_true rfl) (Nat.le_of_ble_eq_true rfl) rfl ?_
  refine c_mlook ht hx0 Sh (fun l14 Sl14 => ?_)
  have k14 := lk_ge T z q
  have y14 := sg_b ht q
  show ab_X (d + 6) mX12_term 17 [(0, .ref 200), (1, .int (iI v))] [.int (iI (sg T z q))] l14 _
  refine z_bipush dX12_term_17 (by decide) ?_
  refine z_icmp_eq (tgt := 31) dX12_term_19 (by decide) (by omega) (by decide) (fun c19 => ?_) (fun c19 => ?_)
  · skip
    refine ab_aload_n (k := 0) dX12_term_31 rfl rfl ?_
    refine ab_callV (As := []) (rest := []) dX12_term_32 lX12_153 rfl (Nat.le_of_ble_eq_true rfl) (Nat.le_of_ble_eq_true rfl) rfl ?_
    refine c_mlook2 ht hx0 Sl14 (fun l32 Sl32 => ?_)
    have y32 := sg_b ht q
    show ab_X (d + 6) mX12_term 35 [(0, .ref 200), (1, .int (iI v))] [.int (iI (sg T z q))] l32 _
    refine z_bipush dX12_term_35 (by decide) ?_
    refine z_icmp_ne (tgt := 44) dX12_term_37 (by decide) (by omega) (by decide) (fun c37 => ?_) (fun c37 => ?_)
    · skip
      refine z_iconst dX12_term_44 ?_
      refine ab_istore_n (ls' := [(2, .int (iI 0)), (0, .ref 200), (1, .int (iI v))]) dX12_term_45 rfl (by decide) rfl ?_
      have zz := sg_in (T := T) (z := z) (p := q) (by omega)
      refine ab_aload_n (k := 1) dX12_term_46 rfl rfl ?_
      refine ab_dup dX12_term_47 rfl ?_
      refine z_getI dX12_term_48 fX12_134 rfl (Or.inl rfl) ?_
      refine z_is (y := (((lk T z q) : Nat) : Int)) Sl32.2.1 ?_
      refine z_iconst dX12_term_51 ?_
      refine z_iadd dX12_term_52 ?_
      refine z_putI dX12_term_53 fX12_134 rfl rfl ?_
      obtain ⟨n53, en53⟩ : ∃ zz : ab_H, zz = zp l32 200 10 ((((lk T z q) : Nat) : Int) + 1) := ⟨_, rfl⟩
      rw [← en53]
      have Sn53 : ML z h0 n53 ((lk T z q) + 1) D := by rw [en53]; exact ML_at Sl32 hz (by omega) (by omega)
      refine ab_aload_n (k := 1) dX12_term_56 rfl rfl ?_
      refine ab_callV (As := []) (rest := []) dX12_term_57 lX12_186 rfl (Nat.le_of_ble_eq_true rfl) (Nat.le_of_ble_eq_true rfl) rfl ?_
      refine hN h0 _ _ _ hx0 Sn53 (fun l57 p57 c57 v57 j57 b57 vb57 ev57 Sl57 => ?_) (fun e57 v57 w57 j57 n57 vb57 Se57 => ?_)
      · skip
        have r57 := Sl57.2.2.2.2.1
        show ab_X (d + 6) mX12_term 60 [(2, .int (iI 0)), (0, .ref 200), (1, .int (iI v))] [.int (iI v57)] l57 _
        refine z_i2l dX12_term_60 (by omega) ?_
        refine ab_lstore_n (ls' := [(3, .long (lL v57)), (2, .int (iI 0)), (0, .ref 200), (1, .int (iI v))]) dX12_term_61 rfl (by decide) rfl ?_
        refine ab_iload_n (k := 1) dX12_term_62 rfl rfl ?_
        refine z_if_eq (tgt := 73) dX12_term_63 (by decide) (by decide) (fun _ => ?_) (fun c63 => absurd c63 (by decide))
        refine ab_lload_n (k := 0) dX12_term_73 rfl rfl ?_
        refine z_lconst (v := 0) dX12_term_74 (by decide) ?_
        refine z_lcmp dX12_term_75 (by omega) (by omega) (fun c75 => ?_) (fun c75 => ?_) (fun c75 => ?_)
        · skip
          refine z_if_ne (tgt := 83) dX12_term_76 (by decide) (by decide) (fun _ => ?_) (fun c76 => absurd c76 (by decide))
          refine ab_iload_n (k := 3) dX12_term_83 rfl rfl ?_
          refine z_i2l dX12_term_84 (by omega) ?_
          refine ab_lload_n (k := 0) dX12_term_85 rfl rfl ?_
          refine z_ldiv dX12_term_86 (by omega) (by omega) (by omega) ?_
          refine ab_callS (As := [.long (lL (Int.tdiv v v57))]) (rest := []) dX12_term_87 lX12_189 (Nat.le_of_ble_eq_true rfl) (Nat.le_of_ble_eq_true rfl) rfl ?_
          refine c_mwithin (tdivL (by omega)) ?_
          have bw := bnd_b (Int.tdiv v v57)
          show ab_X (d + 6) mX12_term 90 [(3, .long (lL v57)), (2, .int (iI 0)), (0, .ref 200), (1, .int (iI v))] [.int (iI (bnd (Int.tdiv v v57)))] l57 _
          refine ab_istore_n (ls' := [(1, .int (iI (bnd (Int.tdiv v v57)))), (3, .long (lL v57)), (2, .int (iI 0)), (0, .ref 200)]) dX12_term_90 rfl (by decide) rfl ?_
          refine ab_goto (tgt := 5) dX12_term_91 (by decide) ?_
          refine ab_sub (ls' := [(0, .ref 200), (1, .int (iI (bnd (Int.tdiv v v57))))]) (ks := [3, 0]) rfl ?_
          first
          | (exfalso; omega)
          | (obtain ⟨o, ho⟩ : ∃ o, opo 42 47 4 5 (sg T z q) = o := ⟨_, rfl⟩
             have ho2 : (sg T z q = 42 → o = 4) ∧ (¬ sg T z q = 42 → o = 5) ∧ ¬ o = -1 ∧ 2 ≤ o ∧ ¬ o = 9 ∧ o < 12 := by
               rw [← ho]; unfold opo; (repeat' split) <;> omega
             have eJ : bnd (Int.tdiv v v57) = jn o v v57 := by
               unfold jn
               first
               | rw [if_pos (by omega)]
               | rw [if_neg (by omega), if_pos (by omega)]
               | rw [if_neg (by omega), if_neg (by omega), if_pos (by omega)]
               | (rw [if_neg (by omega), if_neg (by omega), if_neg (by omega), if_pos (by omega), if_pos (by omega)]; rfl)
               | rw [if_neg (by omega), if_neg (by omega), if_neg (by omega), if_pos (by omega), if_neg (by omega)]
             refine ih _ (by omega) p57 (i + 1) (c1 ++ (c57 ++ [(o, 0)])) _ _ rfl Sl57 (by omega) (by omega) (by omega) ?_ ?_ ?_
             · first | omega | decide
             · rw [eJ]; exact evp_op hev ev57 (Nat.le_refl _) (by omega)
             · rw [← hR, show 160 - i = (160 - (i + 1)) + 1 by omega]
               exact (seqL_1 ho (by omega) j57).symm)
        · skip
          refine z_if_ne (tgt := 83) dX12_term_76 (by decide) (by decide) (fun c76 => absurd c76 (by decide)) (fun _ => ?_)
          refine z_lconst (v := 0) dX12_term_79 (by decide) ?_
          refine ab_goto (tgt := 87) dX12_term_80 (by decide) ?_
          refine ab_callS (As := [.long (lL 0)]) (rest := []) dX12_term_87 lX12_189 (Nat.le_of_ble_eq_true rfl) (Nat.le_of_ble_eq_true rfl) rfl ?_
          refine c_mwithin (by decide) ?_
          have bw := bnd_b (0)
          show ab_X (d + 6) mX12_term 90 [(3, .long (lL v57)), (2, .int (iI 0)), (0, .ref 200), (1, .int (iI v))] [.int (iI (bnd (0)))] l57 _
          refine ab_istore_n (ls' := [(1, .int (iI (bnd (0)))), (3, .long (lL v57)), (2, .int (iI 0)), (0, .ref 200)]) dX12_term_90 rfl (by decide) rfl ?_
          refine ab_goto (tgt := 5) dX12_term_91 (by decide) ?_
          refine ab_sub (ls' := [(0, .ref 200), (1, .int (iI (bnd (0))))]) (ks := [3, 0]) rfl ?_
          first
          | (exfalso; omega)
          | (obtain ⟨o, ho⟩ : ∃ o, opo 42 47 4 5 (sg T z q) = o := ⟨_, rfl⟩
             have ho2 : (sg T z q = 42 → o = 4) ∧ (¬ sg T z q = 42 → o = 5) ∧ ¬ o = -1 ∧ 2 ≤ o ∧ ¬ o = 9 ∧ o < 12 := by
               rw [← ho]; unfold opo; (repeat' split) <;> omega
             have eJ : bnd (0) = jn o v v57 := by
               unfold jn
               first
               | rw [if_pos (by omega)]
               | rw [if_neg (by omega), if_pos (by omega)]
               | rw [if_neg (by omega), if_neg (by omega), if_pos (by omega)]
               | (rw [if_neg (by omega), if_neg (by omega), if_neg (by omega), if_pos (by omega), if_pos (by omega)]; rfl)
               | rw [if_neg (by omega), if_neg (by omega), if_neg (by omega), if_pos (by omega), if_neg (by omega)]
             refine ih _ (by omega) p57 (i + 1) (c1 ++ (c57 ++ [(o, 0)])) _ _ rfl Sl57 (by omega) (by omega) (by omega) ?_ ?_ ?_
             · first | omega | decide
             · rw [eJ]; exact evp_op hev ev57 (Nat.le_refl _) (by omega)
             · rw [← hR, show 160 - i = (160 - (i + 1)) + 1 by omega]
               exact (seqL_1 ho (by omega) j57).symm)
        · skip
          refine z_if_ne (tgt := 83) dX12_term_76 (by decide) (by decide) (fun _ => ?_) (fun c76 => absurd c76 (by decide))
          refine ab_iload_n (k := 3) dX12_term_83 rfl rfl ?_
          refine z_i2l dX12_term_84 (by omega) ?_
          refine ab_lload_n (k := 0) dX12_term_85 rfl rfl ?_
          refine z_ldiv dX12_term_86 (by omega) (by omega) (by omega) ?_
          refine ab_callS (As := [.long (lL (Int.tdiv v v57))]) (rest := []) dX12_term_87 lX12_189 (Nat.le_of_ble_eq_true rfl) (Nat.le_of_ble_eq_true rfl) rfl ?_
          refine c_mwithin (tdivL (by omega)) ?_
          have bw := bnd_b (Int.tdiv v v57)
          show ab_X (d + 6) mX12_term 90 [(3, .long (lL v57)), (2, .int (iI 0)), (0, .ref 200), (1, .int (iI v))] [.int (iI (bnd (Int.tdiv v v57)))] l57 _
          refine ab_istore_n (ls' := [(1, .int (iI (bnd (Int.tdiv v v57)))), (3, .long (lL v57)), (2, .int (iI 0)), (0, .ref 200)]) dX12_term_90 rfl (by decide) rfl ?_
          refine ab_goto (tgt := 5) dX12_term_91 (by decide) ?_
          refine ab_sub (ls' := [(0, .ref 200), (1, .int (iI (bnd (Int.tdiv v v57))))]) (ks := [3, 0]) rfl ?_
          first
          | (exfalso; omega)
          | (obtain ⟨o, ho⟩ : ∃ o, opo 42 47 4 5 (sg T z q) = o := ⟨_, rfl⟩
             have ho2 : (sg T z q = 42 → o = 4) ∧ (¬ sg T z q = 42 → o = 5) ∧ ¬ o = -1 ∧ 2 ≤ o ∧ ¬ o = 9 ∧ o < 12 := by
               rw [← ho]; unfold opo; (repeat' split) <;> omega
             have eJ : bnd (Int.tdiv v v57) = jn o v v57 := by
               unfold jn
               first
               | rw [if_pos (by omega)]
               | rw [if_neg (by omega), if_pos (by omega)]
               | rw [if_neg (by omega), if_neg (by omega), if_pos (by omega)]
               | (rw [if_neg (by omega), if_neg (by omega), if_neg (by omega), if_pos (by omega), if_pos (by omega)]; rfl)
               | rw [if_neg (by omega), if_neg (by omega), if_neg (by omega), if_pos (by omega), if_neg (by omega)]
             refine ih _ (by omega) p57 (i + 1) (c1 ++ (c57 ++ [(o, 0)])) _ _ rfl Sl57 (by omega) (by omega) (by omega) ?_ ?_ ?_
             · first | omega | decide
             · rw [eJ]; exact evp_op hev ev57 (Nat.le_refl _) (by omega)
             · rw [← hR, show 160 - i = (160 - (i + 1)) + 1 by omega]
               exact (seqL_1 ho (by omega) j57).symm)
      · skip
        show ab_X (d + 6) mX12_term 60 [(2, .int (iI 0)), (0, .ref 200), (1, .int (iI v))] [.int (iI v57)] e57 _
        refine z_i2l dX12_term_60 (by omega) ?_
        refine ab_lstore_n (ls' := [(3, .long (lL v57)), (2, .int (iI 0)), (0, .ref 200), (1, .int (iI v))]) dX12_term_61 rfl (by decide) rfl ?_
        refine ab_iload_n (k := 1) dX12_term_62 rfl rfl ?_
        refine z_if_eq (tgt := 73) dX12_term_63 (by decide) (by decide) (fun _ => ?_) (fun c63 => absurd c63 (by decide))
        refine ab_lload_n (k := 0) dX12_term_73 rfl rfl ?_
        refine z_lconst (v := 0) dX12_term_74 (by decide) ?_
        refine z_lcmp dX12_term_75 (by omega) (by omega) (fun c75 => ?_) (fun c75 => ?_) (fun c75 => ?_)
        · skip
          refine z_if_ne (tgt := 83) dX12_term_76 (by decide) (by decide) (fun _ => ?_) (fun c76 => absurd c76 (by decide))
          refine ab_iload_n (k := 3) dX12_term_83 rfl rfl ?_
          refine z_i2l dX12_term_84 (by omega) ?_
          refine ab_lload_n (k := 0) dX12_term_85 rfl rfl ?_
          refine z_ldiv dX12_term_86 (by omega) (by omega) (by omega) ?_
          refine ab_callS (As := [.long (lL (Int.tdiv v v57))]) (rest := []) dX12_term_87 lX12_189 (Nat.le_of_ble_eq_true rfl) (Nat.le_of_ble_eq_true rfl) rfl ?_
          refine c_mwithin (tdivL (by omega)) ?_
          have bw := bnd_b (Int.tdiv v v57)
          show ab_X (d + 6) mX12_term 90 [(3, .long (lL v57)), (2, .int (iI 0)), (0, .ref 200), (1, .int (iI v))] [.int (iI (bnd (Int.tdiv v v57)))] e57 _
          refine ab_istore_n (ls' := [(1, .int (iI (bnd (Int.tdiv v v57)))), (3, .long (lL v57)), (2, .int (iI 0)), (0, .ref 200)]) dX12_term_90 rfl (by decide) rfl ?_
          refine ab_goto (tgt := 5) dX12_term_91 (by decide) ?_
          refine ab_sub (ls' := [(0, .ref 200), (1, .int (iI (bnd (Int.tdiv v v57))))]) (ks := [3, 0]) rfl ?_
          exact dl_mterm (T := T) (t := t) (b := b) (n := n) (env := env) Se57 (K0 _ _ _ (by rw [← hR, show 160 - i = (159 - i) + 1 by omega]; exact seqL_2 (by unfold opo; (repeat' split) <;> omega) j57 n57) n57 (by omega) Se57)
        · skip
          refine z_if_ne (tgt := 83) dX12_term_76 (by decide) (by decide) (fun c76 => absurd c76 (by decide)) (fun _ => ?_)
          refine z_lconst (v := 0) dX12_term_79 (by decide) ?_
          refine ab_goto (tgt := 87) dX12_term_80 (by decide) ?_
          refine ab_callS (As := [.long (lL 0)]) (rest := []) dX12_term_87 lX12_189 (Nat.le_of_ble_eq_true rfl) (Nat.le_of_ble_eq_true rfl) rfl ?_
          refine c_mwithin (by decide) ?_
          have bw := bnd_b (0)
          show ab_X (d + 6) mX12_term 90 [(3, .long (lL v57)), (2, .int (iI 0)), (0, .ref 200), (1, .int (iI v))] [.int (iI (bnd (0)))] e57 _
          refine ab_istore_n (ls' := [(1, .int (iI (bnd (0)))), (3, .long (lL v57)), (2, .int (iI 0)), (0, .ref 200)]) dX12_term_90 rfl (by decide) rfl ?_
          refine ab_goto (tgt := 5) dX12_term_91 (by decide) ?_
          refine ab_sub (ls' := [(0, .ref 200), (1, .int (iI (bnd (0))))]) (ks := [3, 0]) rfl ?_
          exact dl_mterm (T := T) (t := t) (b := b) (n := n) (env := env) Se57 (K0 _ _ _ (by rw [← hR, show 160 - i = (159 - i) + 1 by omega]; exact seqL_2 (by unfold opo; (repeat' split) <;> omega) j57 n57) n57 (by omega) Se57)
        · skip
          refine z_if_ne (tgt := 83) dX12_term_76 (by decide) (by decide) (fun _ => ?_) (fun c76 => absurd c76 (by decide))
          refine ab_iload_n (k := 3) dX12_term_83 rfl rfl ?_
          refine z_i2l dX12_term_84 (by omega) ?_
          refine ab_lload_n (k := 0) dX12_term_85 rfl rfl ?_
          refine z_ldiv dX12_term_86 (by omega) (by omega) (by omega) ?_
          refine ab_callS (As := [.long (lL (Int.tdiv v v57))]) (rest := []) dX12_term_87 lX12_189 (Nat.le_of_ble_eq_true rfl) (Nat.le_of_ble_eq_true rfl) rfl ?_
          refine c_mwithin (tdivL (by omega)) ?_
          have bw := bnd_b (Int.tdiv v v57)
          show ab_X (d + 6) mX12_term 90 [(3, .long (lL v57)), (2, .int (iI 0)), (0, .ref 200), (1, .int (iI v))] [.int (iI (bnd (Int.tdiv v v57)))] e57 _
          refine ab_istore_n (ls' := [(1, .int (iI (bnd (Int.tdiv v v57)))), (3, .long (lL v57)), (2, .int (iI 0)), (0, .ref 200)]) dX12_term_90 rfl (by decide) rfl ?_
          refine ab_goto (tgt := 5) dX12_term_91 (by decide) ?_
          refine ab_sub (ls' := [(0, .ref 200), (1, .int (iI (bnd (Int.tdiv v v57))))]) (ks := [3, 0]) rfl ?_
          exact dl_mterm (T := T) (t := t) (b := b) (n := n) (env := env) Se57 (K0 _ _ _ (by rw [← hR, show 160 - i = (159 - i) + 1 by omega]; exact seqL_2 (by unfold opo; (repeat' split) <;> omega) j57 n57) n57 (by omega) Se57)
    · skip
      refine z_iconst dX12_term_40 ?_
      refine ab_goto (tgt := 45) dX12_term_41 (by decide) ?_
      refine ab_istore_n (ls' := [(2, .int (iI 1)), (0, .ref 200), (1, .int (iI v))]) dX12_term_45 rfl (by decide) rfl ?_
      have zz := sg_in (T := T) (z := z) (p := q) (by omega)
      refine ab_aload_n (k := 1) dX12_term_46 rfl rfl ?_
      refine ab_dup dX12_term_47 rfl ?_
      refine z_getI dX12_term_48 fX12_134 rfl (Or.inl rfl) ?_
      refine z_is (y := (((lk T z q) : Nat) : Int)) Sl32.2.1 ?_
      refine z_iconst dX12_term_51 ?_
      refine z_iadd dX12_term_52 ?_
      refine z_putI dX12_term_53 fX12_134 rfl rfl ?_
      obtain ⟨n53, en53⟩ : ∃ zz : ab_H, zz = zp l32 200 10 ((((lk T z q) : Nat) : Int) + 1) := ⟨_, rfl⟩
      rw [← en53]
      have Sn53 : ML z h0 n53 ((lk T z q) + 1) D := by rw [en53]; exact ML_at Sl32 hz (by omega) (by omega)
      refine ab_aload_n (k := 1) dX12_term_56 rfl rfl ?_
      refine ab_callV (As := []) (rest := []) dX12_term_57 lX12_186 rfl (Nat.le_of_ble_eq_true rfl) (Nat.le_of_ble_eq_true rfl) rfl ?_
      refine hN h0 _ _ _ hx0 Sn53 (fun l57 p57 c57 v57 j57 b57 vb57 ev57 Sl57 => ?_) (fun e57 v57 w57 j57 n57 vb57 Se57 => ?_)
      · skip
        have r57 := Sl57.2.2.2.2.1
        show ab_X (d + 6) mX12_term 60 [(2, .int (iI 1)), (0, .ref 200), (1, .int (iI v))] [.int (iI v57)] l57 _
        refine z_i2l dX12_term_60 (by omega) ?_
        refine ab_lstore_n (ls' := [(3, .long (lL v57)), (2, .int (iI 1)), (0, .ref 200), (1, .int (iI v))]) dX12_term_61 rfl (by decide) rfl ?_
        refine ab_iload_n (k := 1) dX12_term_62 rfl rfl ?_
        refine z_if_eq (tgt := 73) dX12_term_63 (by decide) (by decide) (fun c63 => absurd c63 (by decide)) (fun _ => ?_)
        refine ab_iload_n (k := 3) dX12_term_66 rfl rfl ?_
        refine z_i2l dX12_term_67 (by omega) ?_
        refine ab_lload_n (k := 0) dX12_term_68 rfl rfl ?_
        refine z_lmul dX12_term_69 ?_
        refine ab_goto (tgt := 87) dX12_term_70 (by decide) ?_
        refine ab_callS (As := [.long (lL (v * v57))]) (rest := []) dX12_term_87 lX12_189 (Nat.le_of_ble_eq_true rfl) (Nat.le_of_ble_eq_true rfl) rfl ?_
        refine c_mwithin (mulL (by omega) (by omega)) ?_
        have bw := bnd_b (v * v57)
        show ab_X (d + 6) mX12_term 90 [(3, .long (lL v57)), (2, .int (iI 1)), (0, .ref 200), (1, .int (iI v))] [.int (iI (bnd (v * v57)))] l57 _
        refine ab_istore_n (ls' := [(1, .int (iI (bnd (v * v57)))), (3, .long (lL v57)), (2, .int (iI 1)), (0, .ref 200)]) dX12_term_90 rfl (by decide) rfl ?_
        refine ab_goto (tgt := 5) dX12_term_91 (by decide) ?_
        refine ab_sub (ls' := [(0, .ref 200), (1, .int (iI (bnd (v * v57))))]) (ks := [3, 0]) rfl ?_
        first
        | (exfalso; omega)
        | (obtain ⟨o, ho⟩ : ∃ o, opo 42 47 4 5 (sg T z q) = o := ⟨_, rfl⟩
           have ho2 : (sg T z q = 42 → o = 4) ∧ (¬ sg T z q = 42 → o = 5) ∧ ¬ o = -1 ∧ 2 ≤ o ∧ ¬ o = 9 ∧ o < 12 := by
             rw [← ho]; unfold opo; (repeat' split) <;> omega
           have eJ : bnd (v * v57) = jn o v v57 := by
             unfold jn
             first
             | rw [if_pos (by omega)]
             | rw [if_neg (by omega), if_pos (by omega)]
             | rw [if_neg (by omega), if_neg (by omega), if_pos (by omega)]
             | (rw [if_neg (by omega), if_neg (by omega), if_neg (by omega), if_pos (by omega), if_pos (by omega)]; rfl)
             | rw [if_neg (by omega), if_neg (by omega), if_neg (by omega), if_pos (by omega), if_neg (by omega)]
           refine ih _ (by omega) p57 (i + 1) (c1 ++ (c57 ++ [(o, 0)])) _ _ rfl Sl57 (by omega) (by omega) (by omega) ?_ ?_ ?_
           · first | omega | decide
           · rw [eJ]; exact evp_op hev ev57 (Nat.le_refl _) (by omega)
           · rw [← hR, show 160 - i = (160 - (i + 1)) + 1 by omega]
             exact (seqL_1 ho (by omega) j57).symm)
      · skip
        show ab_X (d + 6) mX12_term 60 [(2, .int (iI 1)), (0, .ref 200), (1, .int (iI v))] [.int (iI v57)] e57 _
        refine z_i2l dX12_term_60 (by omega) ?_
        refine ab_lstore_n (ls' := [(3, .long (lL v57)), (2, .int (iI 1)), (0, .ref 200), (1, .int (iI v))]) dX12_term_61 rfl (by decide) rfl ?_
        refine ab_iload_n (k := 1) dX12_term_62 rfl rfl ?_
        refine z_if_eq (tgt := 73) dX12_term_63 (by decide) (by decide) (fun c63 => absurd c63 (by decide)) (fun _ => ?_)
        refine ab_iload_n (k := 3) dX12_term_66 rfl rfl ?_
        refine z_i2l dX12_term_67 (by omega) ?_
        refine ab_lload_n (k := 0) dX12_term_68 rfl rfl ?_
        refine z_lmul dX12_term_69 ?_
        refine ab_goto (tgt := 87) dX12_term_70 (by decide) ?_
        refine ab_callS (As := [.long (lL (v * v57))]) (rest := []) dX12_term_87 lX12_189 (Nat.le_of_ble_eq_true rfl) (Nat.le_of_ble_eq_true rfl) rfl ?_
        refine c_mwithin (mulL (by omega) (by omega)) ?_
        have bw := bnd_b (v * v57)
        show ab_X (d + 6) mX12_term 90 [(3, .long (lL v57)), (2, .int (iI 1)), (0, .ref 200), (1, .int (iI v))] [.int (iI (bnd (v * v57)))] e57 _
        refine ab_istore_n (ls' := [(1, .int (iI (bnd (v * v57)))), (3, .long (lL v57)), (2, .int (iI 1)), (0, .ref 200)]) dX12_term_90 rfl (by decide) rfl ?_
        refine ab_goto (tgt := 5) dX12_term_91 (by decide) ?_
        refine ab_sub (ls' := [(0, .ref 200), (1, .int (iI (bnd (v * v57))))]) (ks := [3, 0]) rfl ?_
        exact dl_mterm (T := T) (t := t) (b := b) (n := n) (env := env) Se57 (K0 _ _ _ (by rw [← hR, show 160 - i = (159 - i) + 1 by omega]; exact seqL_2 (by unfold opo; (repeat' split) <;> omega) j57 n57) n57 (by omega) Se57)
  · skip
    refine ab_aload_n (k := 0) dX12_term_22 rfl rfl ?_
    refine ab_callV (As := []) (rest := []) dX12_term_23 lX12_153 rfl (Nat.le_of_ble_eq_true rfl) (Nat.le_of_ble_eq_true rfl) rfl ?_
    refine c_mlook2 ht hx0 Sl14 (fun l23 Sl23 => ?_)
    have y23 := sg_b ht q
    show ab_X (d + 6) mX12_term 26 [(0, .ref 200), (1, .int (iI v))] [.int (iI (sg T z q))] l23 _
    refine z_bipush dX12_term_26 (by decide) ?_
    refine z_icmp_ne (tgt := 94) dX12_term_28 (by decide) (by omega) (by decide) (fun c28 => ?_) (fun c28 => ?_)
    · skip
      refine ab_iload_n (k := 1) dX12_term_94 rfl rfl ?_
      refine z_iret dX12_term_95 rfl ?_
      have e3 := seqL_n (T := T) (z := z) (next := nx) (a := 42) (b := 47) (oa := 4) (ob := 5) (p := q) (c := c1) (by unfold opo; rw [if_neg (by omega), if_neg (by omega)]) (160 - i)
      rw [hR] at e3
      exact K1 _ _ _ _ e3 (by omega) hv hev Sl23
    · skip
      refine ab_aload_n (k := 0) dX12_term_31 rfl rfl ?_
      refine ab_callV (As := []) (rest := []) dX12_term_32 lX12_153 rfl (Nat.le_of_ble_eq_true rfl) (Nat.le_of_ble_eq_true rfl) rfl ?_
      refine c_mlook2 ht hx0 Sl23 (fun l32 Sl32 => ?_)
      have y32 := sg_b ht q
      show ab_X (d + 6) mX12_term 35 [(0, .ref 200), (1, .int (iI v))] [.int (iI (sg T z q))] l32 _
      refine z_bipush dX12_term_35 (by decide) ?_
      refine z_icmp_ne (tgt := 44) dX12_term_37 (by decide) (by omega) (by decide) (fun c37 => ?_) (fun c37 => ?_)
      · skip
        refine z_iconst dX12_term_44 ?_
        refine ab_istore_n (ls' := [(2, .int (iI 0)), (0, .ref 200), (1, .int (iI v))]) dX12_term_45 rfl (by decide) rfl ?_
        have zz := sg_in (T := T) (z := z) (p := q) (by omega)
        refine ab_aload_n (k := 1) dX12_term_46 rfl rfl ?_
        refine ab_dup dX12_term_47 rfl ?_
        refine z_getI dX12_term_48 fX12_134 rfl (Or.inl rfl) ?_
        refine z_is (y := (((lk T z q) : Nat) : Int)) Sl32.2.1 ?_
        refine z_iconst dX12_term_51 ?_
        refine z_iadd dX12_term_52 ?_
        refine z_putI dX12_term_53 fX12_134 rfl rfl ?_
        obtain ⟨n53, en53⟩ : ∃ zz : ab_H, zz = zp l32 200 10 ((((lk T z q) : Nat) : Int) + 1) := ⟨_, rfl⟩
        rw [← en53]
        have Sn53 : ML z h0 n53 ((lk T z q) + 1) D := by rw [en53]; exact ML_at Sl32 hz (by omega) (by omega)
        refine ab_aload_n (k := 1) dX12_term_56 rfl rfl ?_
        refine ab_callV (As := []) (rest := []) dX12_term_57 lX12_186 rfl (Nat.le_of_ble_eq_true rfl) (Nat.le_of_ble_eq_true rfl) rfl ?_
        refine hN h0 _ _ _ hx0 Sn53 (fun l57 p57 c57 v57 j57 b57 vb57 ev57 Sl57 => ?_) (fun e57 v57 w57 j57 n57 vb57 Se57 => ?_)
        · skip
          have r57 := Sl57.2.2.2.2.1
          show ab_X (d + 6) mX12_term 60 [(2, .int (iI 0)), (0, .ref 200), (1, .int (iI v))] [.int (iI v57)] l57 _
          refine z_i2l dX12_term_60 (by omega) ?_
          refine ab_lstore_n (ls' := [(3, .long (lL v57)), (2, .int (iI 0)), (0, .ref 200), (1, .int (iI v))]) dX12_term_61 rfl (by decide) rfl ?_
          refine ab_iload_n (k := 1) dX12_term_62 rfl rfl ?_
          refine z_if_eq (tgt := 73) dX12_term_63 (by decide) (by decide) (fun _ => ?_) (fun c63 => absurd c63 (by decide))
          refine ab_lload_n (k := 0) dX12_term_73 rfl rfl ?_
          refine z_lconst (v := 0) dX12_term_74 (by decide) ?_
          refine z_lcmp dX12_term_75 (by omega) (by omega) (fun c75 => ?_) (fun c75 => ?_) (fun c75 => ?_)
          · skip
            refine z_if_ne (tgt := 83) dX12_term_76 (by decide) (by decide) (fun _ => ?_) (fun c76 => absurd c76 (by decide))
            refine ab_iload_n (k := 3) dX12_term_83 rfl rfl ?_
            refine z_i2l dX12_term_84 (by omega) ?_
            refine ab_lload_n (k := 0) dX12_term_85 rfl rfl ?_
            refine z_ldiv dX12_term_86 (by omega) (by omega) (by omega) ?_
            refine ab_callS (As := [.long (lL (Int.tdiv v v57))]) (rest := []) dX12_term_87 lX12_189 (Nat.le_of_ble_eq_true rfl) (Nat.le_of_ble_eq_true rfl) rfl ?_
            refine c_mwithin (tdivL (by omega)) ?_
            have bw := bnd_b (Int.tdiv v v57)
            show ab_X (d + 6) mX12_term 90 [(3, .long (lL v57)), (2, .int (iI 0)), (0, .ref 200), (1, .int (iI v))] [.int (iI (bnd (Int.tdiv v v57)))] l57 _
            refine ab_istore_n (ls' := [(1, .int (iI (bnd (Int.tdiv v v57)))), (3, .long (lL v57)), (2, .int (iI 0)), (0, .ref 200)]) dX12_term_90 rfl (by decide) rfl ?_
            refine ab_goto (tgt := 5) dX12_term_91 (by decide) ?_
            refine ab_sub (ls' := [(0, .ref 200), (1, .int (iI (bnd (Int.tdiv v v57))))]) (ks := [3, 0]) rfl ?_
            first
            | (exfalso; omega)
            | (obtain ⟨o, ho⟩ : ∃ o, opo 42 47 4 5 (sg T z q) = o := ⟨_, rfl⟩
               have ho2 : (sg T z q = 42 → o = 4) ∧ (¬ sg T z q = 42 → o = 5) ∧ ¬ o = -1 ∧ 2 ≤ o ∧ ¬ o = 9 ∧ o < 12 := by
                 rw [← ho]; unfold opo; (repeat' split) <;> omega
               have eJ : bnd (Int.tdiv v v57) = jn o v v57 := by
                 unfold jn
                 first
                 | rw [if_pos (by omega)]
                 | rw [if_neg (by omega), if_pos (by omega)]
                 | rw [if_neg (by omega), if_neg (by omega), if_pos (by omega)]
                 | (rw [if_neg (by omega), if_neg (by omega), if_neg (by omega), if_pos (by omega), if_pos (by omega)]; rfl)
                 | rw [if_neg (by omega), if_neg (by omega), if_neg (by omega), if_pos (by omega), if_neg (by omega)]
               refine ih _ (by omega) p57 (i + 1) (c1 ++ (c57 ++ [(o, 0)])) _ _ rfl Sl57 (by omega) (by omega) (by omega) ?_ ?_ ?_
               · first | omega | decide
               · rw [eJ]; exact evp_op hev ev57 (Nat.le_refl _) (by omega)
               · rw [← hR, show 160 - i = (160 - (i + 1)) + 1 by omega]
                 exact (seqL_1 ho (by omega) j57).symm)
          · skip
            refine z_if_ne (tgt := 83) dX12_term_76 (by decide) (by decide) (fun c76 => absurd c76 (by decide)) (fun _ => ?_)
            refine z_lconst (v := 0) dX12_term_79 (by decide) ?_
            refine ab_goto (tgt := 87) dX12_term_80 (by decide) ?_
            refine ab_callS (As := [.long (lL 0)]) (rest := []) dX12_term_87 lX12_189 (Nat.le_of_ble_eq_true rfl) (Nat.le_of_ble_eq_true rfl) rfl ?_
            refine c_mwithin (by decide) ?_
            have bw := bnd_b (0)
            show ab_X (d + 6) mX12_term 90 [(3, .long (lL v57)), (2, .int (iI 0)), (0, .ref 200), (1, .int (iI v))] [.int (iI (bnd (0)))] l57 _
            refine ab_istore_n (ls' := [(1, .int (iI (bnd (0)))), (3, .long (lL v57)), (2, .int (iI 0)), (0, .ref 200)]) dX12_term_90 rfl (by decide) rfl ?_
            refine ab_goto (tgt := 5) dX12_term_91 (by decide) ?_
            refine ab_sub (ls' := [(0, .ref 200), (1, .int (iI (bnd (0))))]) (ks := [3, 0]) rfl ?_
            first
            | (exfalso; omega)
            | (obtain ⟨o, ho⟩ : ∃ o, opo 42 47 4 5 (sg T z q) = o := ⟨_, rfl⟩
               have ho2 : (sg T z q = 42 → o = 4) ∧ (¬ sg T z q = 42 → o = 5) ∧ ¬ o = -1 ∧ 2 ≤ o ∧ ¬ o = 9 ∧ o < 12 := by
                 rw [← ho]; unfold opo; (repeat' split) <;> omega
               have eJ : bnd (0) = jn o v v57 := by
                 unfold jn
                 first
                 | rw [if_pos (by omega)]
                 | rw [if_neg (by omega), if_pos (by omega)]
                 | rw [if_neg (by omega), if_neg (by omega), if_pos (by omega)]
                 | (rw [if_neg (by omega), if_neg (by omega), if_neg (by omega), if_pos (by omega), if_pos (by omega)]; rfl)
                 | rw [if_neg (by omega), if_neg (by omega), if_neg (by omega), if_pos (by omega), if_neg (by omega)]
               refine ih _ (by omega) p57 (i + 1) (c1 ++ (c57 ++ [(o, 0)])) _ _ rfl Sl57 (by omega) (by omega) (by omega) ?_ ?_ ?_
               · first | omega | decide
               · rw [eJ]; exact evp_op hev ev57 (Nat.le_refl _) (by omega)
               · rw [← hR, show 160 - i = (160 - (i + 1)) + 1 by omega]
                 exact (seqL_1 ho (by omega) j57).symm)
          · skip
            refine z_if_ne (tgt := 83) dX12_term_76 (by decide) (by decide) (fun _ => ?_) (fun c76 => absurd c76 (by decide))
            refine ab_iload_n (k := 3) dX12_term_83 rfl rfl ?_
            refine z_i2l dX12_term_84 (by omega) ?_
            refine ab_lload_n (k := 0) dX12_term_85 rfl rfl ?_
            refine z_ldiv dX12_term_86 (by omega) (by omega) (by omega) ?_
            refine ab_callS (As := [.long (lL (Int.tdiv v v57))]) (rest := []) dX12_term_87 lX12_189 (Nat.le_of_ble_eq_true rfl) (Nat.le_of_ble_eq_true rfl) rfl ?_
            refine c_mwithin (tdivL (by omega)) ?_
            have bw := bnd_b (Int.tdiv v v57)
            show ab_X (d + 6) mX12_term 90 [(3, .long (lL v57)), (2, .int (iI 0)), (0, .ref 200), (1, .int (iI v))] [.int (iI (bnd (Int.tdiv v v57)))] l57 _
            refine ab_istore_n (ls' := [(1, .int (iI (bnd (Int.tdiv v v57)))), (3, .long (lL v57)), (2, .int (iI 0)), (0, .ref 200)]) dX12_term_90 rfl (by decide) rfl ?_
            refine ab_goto (tgt := 5) dX12_term_91 (by decide) ?_
            refine ab_sub (ls' := [(0, .ref 200), (1, .int (iI (bnd (Int.tdiv v v57))))]) (ks := [3, 0]) rfl ?_
            first
            | (exfalso; omega)
            | (obtain ⟨o, ho⟩ : ∃ o, opo 42 47 4 5 (sg T z q) = o := ⟨_, rfl⟩
               have ho2 : (sg T z q = 42 → o = 4) ∧ (¬ sg T z q = 42 → o = 5) ∧ ¬ o = -1 ∧ 2 ≤ o ∧ ¬ o = 9 ∧ o < 12 := by
                 rw [← ho]; unfold opo; (repeat' split) <;> omega
               have eJ : bnd (Int.tdiv v v57) = jn o v v57 := by
                 unfold jn
                 first
                 | rw [if_pos (by omega)]
                 | rw [if_neg (by omega), if_pos (by omega)]
                 | rw [if_neg (by omega), if_neg (by omega), if_pos (by omega)]
                 | (rw [if_neg (by omega), if_neg (by omega), if_neg (by omega), if_pos (by omega), if_pos (by omega)]; rfl)
                 | rw [if_neg (by omega), if_neg (by omega), if_neg (by omega), if_pos (by omega), if_neg (by omega)]
               refine ih _ (by omega) p57 (i + 1) (c1 ++ (c57 ++ [(o, 0)])) _ _ rfl Sl57 (by omega) (by omega) (by omega) ?_ ?_ ?_
               · first | omega | decide
               · rw [eJ]; exact evp_op hev ev57 (Nat.le_refl _) (by omega)
               · rw [← hR, show 160 - i = (160 - (i + 1)) + 1 by omega]
                 exact (seqL_1 ho (by omega) j57).symm)
        · skip
          show ab_X (d + 6) mX12_term 60 [(2, .int (iI 0)), (0, .ref 200), (1, .int (iI v))] [.int (iI v57)] e57 _
          refine z_i2l dX12_term_60 (by omega) ?_
          refine ab_lstore_n (ls' := [(3, .long (lL v57)), (2, .int (iI 0)), (0, .ref 200), (1, .int (iI v))]) dX12_term_61 rfl (by decide) rfl ?_
          refine ab_iload_n (k := 1) dX12_term_62 rfl rfl ?_
          refine z_if_eq (tgt := 73) dX12_term_63 (by decide) (by decide) (fun _ => ?_) (fun c63 => absurd c63 (by decide))
          refine ab_lload_n (k := 0) dX12_term_73 rfl rfl ?_
          refine z_lconst (v := 0) dX12_term_74 (by decide) ?_
          refine z_lcmp dX12_term_75 (by omega) (by omega) (fun c75 => ?_) (fun c75 => ?_) (fun c75 => ?_)
          · skip
            refine z_if_ne (tgt := 83) dX12_term_76 (by decide) (by decide) (fun _ => ?_) (fun c76 => absurd c76 (by decide))
            refine ab_iload_n (k := 3) dX12_term_83 rfl rfl ?_
            refine z_i2l dX12_term_84 (by omega) ?_
            refine ab_lload_n (k := 0) dX12_term_85 rfl rfl ?_
            refine z_ldiv dX12_term_86 (by omega) (by omega) (by omega) ?_
            refine ab_callS (As := [.long (lL (Int.tdiv v v57))]) (rest := []) dX12_term_87 lX12_189 (Nat.le_of_ble_eq_true rfl) (Nat.le_of_ble_eq_true rfl) rfl ?_
            refine c_mwithin (tdivL (by omega)) ?_
            have bw := bnd_b (Int.tdiv v v57)
            show ab_X (d + 6) mX12_term 90 [(3, .long (lL v57)), (2, .int (iI 0)), (0, .ref 200), (1, .int (iI v))] [.int (iI (bnd (Int.tdiv v v57)))] e57 _
            refine ab_istore_n (ls' := [(1, .int (iI (bnd (Int.tdiv v v57)))), (3, .long (lL v57)), (2, .int (iI 0)), (0, .ref 200)]) dX12_term_90 rfl (by decide) rfl ?_
            refine ab_goto (tgt := 5) dX12_term_91 (by decide) ?_
            refine ab_sub (ls' := [(0, .ref 200), (1, .int (iI (bnd (Int.tdiv v v57))))]) (ks := [3, 0]) rfl ?_
            exact dl_mterm (T := T) (t := t) (b := b) (n := n) (env := env) Se57 (K0 _ _ _ (by rw [← hR, show 160 - i = (159 - i) + 1 by omega]; exact seqL_2 (by unfold opo; (repeat' split) <;> omega) j57 n57) n57 (by omega) Se57)
          · skip
            refine z_if_ne (tgt := 83) dX12_term_76 (by decide) (by decide) (fun c76 => absurd c76 (by decide)) (fun _ => ?_)
            refine z_lconst (v := 0) dX12_term_79 (by decide) ?_
            refine ab_goto (tgt := 87) dX12_term_80 (by decide) ?_
            refine ab_callS (As := [.long (lL 0)]) (rest := []) dX12_term_87 lX12_189 (Nat.le_of_ble_eq_true rfl) (Nat.le_of_ble_eq_true rfl) rfl ?_
            refine c_mwithin (by decide) ?_
            have bw := bnd_b (0)
            show ab_X (d + 6) mX12_term 90 [(3, .long (lL v57)), (2, .int (iI 0)), (0, .ref 200), (1, .int (iI v))] [.int (iI (bnd (0)))] e57 _
            refine ab_istore_n (ls' := [(1, .int (iI (bnd (0)))), (3, .long (lL v57)), (2, .int (iI 0)), (0, .ref 200)]) dX12_term_90 rfl (by decide) rfl ?_
            refine ab_goto (tgt := 5) dX12_term_91 (by decide) ?_
            refine ab_sub (ls' := [(0, .ref 200), (1, .int (iI (bnd (0))))]) (ks := [3, 0]) rfl ?_
            exact dl_mterm (T := T) (t := t) (b := b) (n := n) (env := env) Se57 (K0 _ _ _ (by rw [← hR, show 160 - i = (159 - i) + 1 by omega]; exact seqL_2 (by unfold opo; (repeat' split) <;> omega) j57 n57) n57 (by omega) Se57)
          · skip
            refine z_if_ne (tgt := 83) dX12_term_76 (by decide) (by decide) (fun _ => ?_) (fun c76 => absurd c76 (by decide))
            refine ab_iload_n (k := 3) dX12_term_83 rfl rfl ?_
            refine z_i2l dX12_term_84 (by omega) ?_
            refine ab_lload_n (k := 0) dX12_term_85 rfl rfl ?_
            refine z_ldiv dX12_term_86 (by omega) (by omega) (by omega) ?_
            refine ab_callS (As := [.long (lL (Int.tdiv v v57))]) (rest := []) dX12_term_87 lX12_189 (Nat.le_of_ble_eq_true rfl) (Nat.le_of_ble_eq_true rfl) rfl ?_
            refine c_mwithin (tdivL (by omega)) ?_
            have bw := bnd_b (Int.tdiv v v57)
            show ab_X (d + 6) mX12_term 90 [(3, .long (lL v57)), (2, .int (iI 0)), (0, .ref 200), (1, .int (iI v))] [.int (iI (bnd (Int.tdiv v v57)))] e57 _
            refine ab_istore_n (ls' := [(1, .int (iI (bnd (Int.tdiv v v57)))), (3, .long (lL v57)), (2, .int (iI 0)), (0, .ref 200)]) dX12_term_90 rfl (by decide) rfl ?_
            refine ab_goto (tgt := 5) dX12_term_91 (by decide) ?_
            refine ab_sub (ls' := [(0, .ref 200), (1, .int (iI (bnd (Int.tdiv v v57))))]) (ks := [3, 0]) rfl ?_
            exact dl_mterm (T := T) (t := t) (b := b) (n := n) (env := env) Se57 (K0 _ _ _ (by rw [← hR, show 160 - i = (159 - i) + 1 by omega]; exact seqL_2 (by unfold opo; (repeat' split) <;> omega) j57 n57) n57 (by omega) Se57)
      · skip
        refine z_iconst dX12_term_40 ?_
        refine ab_goto (tgt := 45) dX12_term_41 (by decide) ?_
        refine ab_istore_n (ls' := [(2, .int (iI 1)), (0, .ref 200), (1, .int (iI v))]) dX12_term_45 rfl (by decide) rfl ?_
        have zz := sg_in (T := T) (z := z) (p := q) (by omega)
        refine ab_aload_n (k := 1) dX12_term_46 rfl rfl ?_
        refine ab_dup dX12_term_47 rfl ?_
        refine z_getI dX12_term_48 fX12_134 rfl (Or.inl rfl) ?_
        refine z_is (y := (((lk T z q) : Nat) : Int)) Sl32.2.1 ?_
        refine z_iconst dX12_term_51 ?_
        refine z_iadd dX12_term_52 ?_
        refine z_putI dX12_term_53 fX12_134 rfl rfl ?_
        obtain ⟨n53, en53⟩ : ∃ zz : ab_H, zz = zp l32 200 10 ((((lk T z q) : Nat) : Int) + 1) := ⟨_, rfl⟩
        rw [← en53]
        have Sn53 : ML z h0 n53 ((lk T z q) + 1) D := by rw [en53]; exact ML_at Sl32 hz (by omega) (by omega)
        refine ab_aload_n (k := 1) dX12_term_56 rfl rfl ?_
        refine ab_callV (As := []) (rest := []) dX12_term_57 lX12_186 rfl (Nat.le_of_ble_eq_true rfl) (Nat.le_of_ble_eq_true rfl) rfl ?_
        refine hN h0 _ _ _ hx0 Sn53 (fun l57 p57 c57 v57 j57 b57 vb57 ev57 Sl57 => ?_) (fun e57 v57 w57 j57 n57 vb57 Se57 => ?_)
        · skip
          have r57 := Sl57.2.2.2.2.1
          show ab_X (d + 6) mX12_term 60 [(2, .int (iI 1)), (0, .ref 200), (1, .int (iI v))] [.int (iI v57)] l57 _
          refine z_i2l dX12_term_60 (by omega) ?_
          refine ab_lstore_n (ls' := [(3, .long (lL v57)), (2, .int (iI 1)), (0, .ref 200), (1, .int (iI v))]) dX12_term_61 rfl (by decide) rfl ?_
          refine ab_iload_n (k := 1) dX12_term_62 rfl rfl ?_
          refine z_if_eq (tgt := 73) dX12_term_63 (by decide) (by decide) (fun c63 => absurd c63 (by decide)) (fun _ => ?_)
          refine ab_iload_n (k := 3) dX12_term_66 rfl rfl ?_
          refine z_i2l dX12_term_67 (by omega) ?_
          refine ab_lload_n (k := 0) dX12_term_68 rfl rfl ?_
          refine z_lmul dX12_term_69 ?_
          refine ab_goto (tgt := 87) dX12_term_70 (by decide) ?_
          refine ab_callS (As := [.long (lL (v * v57))]) (rest := []) dX12_term_87 lX12_189 (Nat.le_of_ble_eq_true rfl) (Nat.le_of_ble_eq_true rfl) rfl ?_
          refine c_mwithin (mulL (by omega) (by omega)) ?_
          have bw := bnd_b (v * v57)
          show ab_X (d + 6) mX12_term 90 [(3, .long (lL v57)), (2, .int (iI 1)), (0, .ref 200), (1, .int (iI v))] [.int (iI (bnd (v * v57)))] l57 _
          refine ab_istore_n (ls' := [(1, .int (iI (bnd (v * v57)))), (3, .long (lL v57)), (2, .int (iI 1)), (0, .ref 200)]) dX12_term_90 rfl (by decide) rfl ?_
          refine ab_goto (tgt := 5) dX12_term_91 (by decide) ?_
          refine ab_sub (ls' := [(0, .ref 200), (1, .int (iI (bnd (v * v57))))]) (ks := [3, 0]) rfl ?_
          first
          | (exfalso; omega)
          | (obtain ⟨o, ho⟩ : ∃ o, opo 42 47 4 5 (sg T z q) = o := ⟨_, rfl⟩
             have ho2 : (sg T z q = 42 → o = 4) ∧ (¬ sg T z q = 42 → o = 5) ∧ ¬ o = -1 ∧ 2 ≤ o ∧ ¬ o = 9 ∧ o < 12 := by
               rw [← ho]; unfold opo; (repeat' split) <;> omega
             have eJ : bnd (v * v57) = jn o v v57 := by
               unfold jn
               first
               | rw [if_pos (by omega)]
               | rw [if_neg (by omega), if_pos (by omega)]
               | rw [if_neg (by omega), if_neg (by omega), if_pos (by omega)]
               | (rw [if_neg (by omega), if_neg (by omega), if_neg (by omega), if_pos (by omega), if_pos (by omega)]; rfl)
               | rw [if_neg (by omega), if_neg (by omega), if_neg (by omega), if_pos (by omega), if_neg (by omega)]
             refine ih _ (by omega) p57 (i + 1) (c1 ++ (c57 ++ [(o, 0)])) _ _ rfl Sl57 (by omega) (by omega) (by omega) ?_ ?_ ?_
             · first | omega | decide
             · rw [eJ]; exact evp_op hev ev57 (Nat.le_refl _) (by omega)
             · rw [← hR, show 160 - i = (160 - (i + 1)) + 1 by omega]
               exact (seqL_1 ho (by omega) j57).symm)
        · skip
          show ab_X (d + 6) mX12_term 60 [(2, .int (iI 1)), (0, .ref 200), (1, .int (iI v))] [.int (iI v57)] e57 _
          refine z_i2l dX12_term_60 (by omega) ?_
          refine ab_lstore_n (ls' := [(3, .long (lL v57)), (2, .int (iI 1)), (0, .ref 200), (1, .int (iI v))]) dX12_term_61 rfl (by decide) rfl ?_
          refine ab_iload_n (k := 1) dX12_term_62 rfl rfl ?_
          refine z_if_eq (tgt := 73) dX12_term_63 (by decide) (by decide) (fun c63 => absurd c63 (by decide)) (fun _ => ?_)
          refine ab_iload_n (k := 3) dX12_term_66 rfl rfl ?_
          refine z_i2l dX12_term_67 (by omega) ?_
          refine ab_lload_n (k := 0) dX12_term_68 rfl rfl ?_
          refine z_lmul dX12_term_69 ?_
          refine ab_goto (tgt := 87) dX12_term_70 (by decide) ?_
          refine ab_callS (As := [.long (lL (v * v57))]) (rest := []) dX12_term_87 lX12_189 (Nat.le_of_ble_eq_true rfl) (Nat.le_of_ble_eq_true rfl) rfl ?_
          refine c_mwithin (mulL (by omega) (by omega)) ?_
          have bw := bnd_b (v * v57)
          show ab_X (d + 6) mX12_term 90 [(3, .long (lL v57)), (2, .int (iI 1)), (0, .ref 200), (1, .int (iI v))] [.int (iI (bnd (v * v57)))] e57 _
          refine ab_istore_n (ls' := [(1, .int (iI (bnd (v * v57)))), (3, .long (lL v57)), (2, .int (iI 1)), (0, .ref 200)]) dX12_term_90 rfl (by decide) rfl ?_
          refine ab_goto (tgt := 5) dX12_term_91 (by decide) ?_
          refine ab_sub (ls' := [(0, .ref 200), (1, .int (iI (bnd (v * v57))))]) (ks := [3, 0]) rfl ?_
          exact dl_mterm (T := T) (t := t) (b := b) (n := n) (env := env) Se57 (K0 _ _ _ (by rw [← hR, show 160 - i = (159 - i) + 1 by omega]; exact seqL_2 (by unfold opo; (repeat' split) <;> omega) j57 n57) n57 (by omega) Se57)
theorem c_mterm0 {d : Nat} {h : ab_H} {Q : ab_Q} {T : Nat → Int} {z t b n : Nat} {env : Nat → Int} {h0 : ab_H} {p D : Nat} {B : Nat} {fs nx : Nat → pR}  (ht : tx T z) (hx0 : MX T z t b n env h0) (hF : mdI T z t b n env mX12_atom [.ref 200] fs D B (d + 5)) (hN : mdI T z t b n env mX12_atom [.ref 200] nx D B (d + 5)) (Sh : ML z h0 h p D) (K1 : ∀ h' p' c' v, seqF T z fs nx 42 47 4 5 p = (-1, p', c') → p ≤ p' → (-1000000 ≤ v ∧ v ≤ 1000000) → evp env [] c' v (B + 1) → ML z h0 h' p' D → Q (some (.int (iI v))) h') (K0 : ∀ h' v w, (seqF T z fs nx 42 47 4 5 p).1 = w → ¬ w = -1 → inR v → MD z h0 h' w → Q (some (.int (iI v))) h') : ab_X (d + 6) mX12_term 0 (lv_args 0 [.ref 200]) [] h Q := by
  show ab_X (d + 6) mX12_term 0 [(0, .ref 200)] [] h Q
  have hz := ht.1
  have hx := MX_F hx0 Sh.1
  have hk := hx.2.2.2.2.1
  have hbn := hx.2.2.2.2.2.1
  have hn1 := hx.2.2.2.2.2.2.1
  have hpz := Sh.2.2.2.2.1
  refine ab_aload_n (k := 0) dX12_term_0 rfl rfl ?_
  refine ab_callV (As := []) (rest := []) dX12_term_1 lX12_186 rfl (Nat.le_of_ble_eq_true rfl) (Nat.le_of_ble_eq_true rfl) rfl ?_
  refine hF h0 _ _ _ hx0 Sh (fun l1 p1 c1 v1 j1 b1 vb1 ev1 Sl1 => ?_) (fun e1 v1 w1 j1 n1 vb1 Se1 => ?_)
  · skip
    have r1 := Sl1.2.2.2.2.1
    show ab_X (d + 6) mX12_term 4 [(0, .ref 200)] [.int (iI v1)] l1 _
    refine ab_istore_n (ls' := [(1, .int (iI v1)), (0, .ref 200)]) dX12_term_4 rfl (by decide) rfl ?_
    refine ab_sub (ls' := [(0, .ref 200), (1, .int (iI v1))]) (ks := [1, 0]) rfl ?_
    exact lp_mterm (R := seqF T z fs nx 42 47 4 5 p) (p0 := p) ht hx0 hN K1 K0 _ p1 0 c1 v1 _ rfl Sl1 (by omega) (by omega) (by omega) vb1 (evp_mono ev1 (by omega)) (seq_1 j1).symm
  · skip
    show ab_X (d + 6) mX12_term 4 [(0, .ref 200)] [.int (iI v1)] e1 _
    refine ab_istore_n (ls' := [(1, .int (iI v1)), (0, .ref 200)]) dX12_term_4 rfl (by decide) rfl ?_
    refine ab_sub (ls' := [(0, .ref 200), (1, .int (iI v1))]) (ks := [1, 0]) rfl ?_
    exact dl_mterm (T := T) (t := t) (b := b) (n := n) (env := env) Se1 (K0 _ _ _ (seq_2 j1 n1) n1 vb1 Se1)
theorem dl_msum {d : Nat} {h : ab_H} {Q : ab_Q} {T : Nat → Int} {z t b n : Nat} {env : Nat → Int} {h0 : ab_H} {w v : Int}  (Seh : MD z h0 h w) (K : Q (some (.int (iI v))) h) : ab_X (d + 7) mX12_sum 5 [(0, .ref 200), (1, .int (iI v))] [] h Q := by
  refine ab_aload_n (k := 0) dX12_sum_5 rfl rfl ?_
  refine z_getI dX12_sum_6 fX12_143 rfl (Or.inl rfl) ?_
  have b1 := zv_R h 200 11
  refine z_iconst dX12_sum_9 ?_
  refine z_icmp_ne (tgt := 84) dX12_sum_10 (by decide) (by omega) (by decide) (fun c10 => ?_) (fun c10 => absurd c10 (fun q => Seh.2.2.1 (Seh.2.1.symm.trans q)))
  refine ab_iload_n (k := 1) dX12_sum_84 rfl rfl ?_
  refine z_iret dX12_sum_85 rfl ?_
  exact K
theorem lp_msum {d : Nat} {Q : ab_Q} {h0 : ab_H} {T : Nat → Int} {z t b n : Nat} {env : Nat → Int} {p0 D B : Nat} {nx : Nat → pR} {R : pR}  (ht : tx T z) (hx0 : MX T z t b n env h0) (hN : mdI T z t b n env mX12_term [.ref 200] nx D B (d + 6)) (K1 : ∀ h' p' c' v, R = (-1, p', c') → p0 ≤ p' → (-1000000 ≤ v ∧ v ≤ 1000000) → evp env [] c' v (B + 1) → ML z h0 h' p' D → Q (some (.int (iI v))) h') (K0 : ∀ h' v w, R.1 = w → ¬ w = -1 → inR v → MD z h0 h' w → Q (some (.int (iI v))) h') : ∀ (nn : Nat) (q : Nat) (i : Nat) (c1 : List (Int × Int)) (v : Int) (h : ab_H), 160 - i = nn → (ML z h0 h q D) → (i ≤ 160) → (i ≤ q) → (p0 ≤ q) → (-1000000 ≤ v ∧ v ≤ 1000000) → (evp env [] c1 v (B + 1)) → (seqL T z nx 43 45 2 3 (160 - i) q c1 = R) → ab_X (d + 7) mX12_sum 5 [(0, .ref 200), (1, .int (iI v))] [] h Q := by
  intro nn
  induction nn using Nat.strongRecOn with
  | ind nn ih =>
  intro q i c1 v h hnn Sh hi hiq hpq hv hev hR
  have hz := ht.1
  have hx := MX_F hx0 Sh.1
  have hk := hx.2.2.2.2.1
  have hbn := hx.2.2.2.2.2.1
  have hn1 := hx.2.2.2.2.2.2.1
  have hpz := Sh.2.2.2.2.1
  refine ab_aload_n (k := 0) dX12_sum_5 rfl rfl ?_
  refine z_getI dX12_sum_6 fX12_143 rfl (Or.inl rfl) ?_
  refine z_is (y := (-1)) Sh.2.2.1 ?_
  refine z_iconst dX12_sum_9 ?_
  refine z_icmp_ne (tgt := 84) dX12_sum_10 (by decide) (by decide) (by decide) (fun c10 => absurd c10 (by decide)) (fun _ => ?_)
  refine ab_aload_n (k := 0) dX12_sum_13 rfl rfl ?_
  refine ab_callV (As := []) (rest := []) dX12_sum_14 lX12_153 rfl (Nat.le_of_ble_eq_true rfl) (Nat.le_of_ble_eq_true rfl) rfl ?_
  refine c_mlook ht hx0 Sh (fun l14 Sl14 => ?_)
  have k14 := lk_ge T z q
  have y14 := sg_b ht q
  show ab_X (d + 7) mX12_sum 17 [(0, .ref 200), (1, .int (iI v))] [.int (iI (sg T z q))] l14 _
  refine z_bipush dX12_sum_17 (by decide) ?_
  refine z_icmp_eq (tgt := 31) dX12_sum_19 (by decide) (by omega) (by decide) (fun c19 => ?_) (fun c19 => ?_)
  · skip
    refine ab_aload_n (k := 0) dX12_sum_31 rfl rfl ?_
    refine ab_callV (As := []) (rest := []) dX12_sum_32 lX12_153 rfl (Nat.le_of_ble_eq_true rfl) (Nat.le_of_ble_eq_true rfl) rfl ?_
    refine c_mlook2 ht hx0 Sl14 (fun l32 Sl32 => ?_)
    have y32 := sg_b ht q
    show ab_X (d + 7) mX12_sum 35 [(0, .ref 200), (1, .int (iI v))] [.int (iI (sg T z q))] l32 _
    refine z_bipush dX12_sum_35 (by decide) ?_
    refine z_icmp_ne (tgt := 44) dX12_sum_37 (by decide) (by omega) (by decide) (fun c37 => ?_) (fun c37 => ?_)
    · skip
      refine z_iconst dX12_sum_44 ?_
      refine ab_istore_n (ls' := [(2, .int (iI 0)), (0, .ref 200), (1, .int (iI v))]) dX12_sum_45 rfl (by decide) rfl ?_
      have zz := sg_in (T := T) (z := z) (p := q) (by omega)
      refine ab_aload_n (k := 1) dX12_sum_46 rfl rfl ?_
      refine ab_dup dX12_sum_47 rfl ?_
      refine z_getI dX12_sum_48 fX12_134 rfl (Or.inl rfl) ?_
      refine z_is (y := (((lk T z q) : Nat) : Int)) Sl32.2.1 ?_
      refine z_iconst dX12_sum_51 ?_
      refine z_iadd dX12_sum_52 ?_
      refine z_putI dX12_sum_53 fX12_134 rfl rfl ?_
      obtain ⟨n53, en53⟩ : ∃ zz : ab_H, zz = zp l32 200 10 ((((lk T z q) : Nat) : Int) + 1) := ⟨_, rfl⟩
      rw [← en53]
      have Sn53 : ML z h0 n53 ((lk T z q) + 1) D := by rw [en53]; exact ML_at Sl32 hz (by omega) (by omega)
      refine ab_aload_n (k := 1) dX12_sum_56 rfl rfl ?_
      refine ab_callV (As := []) (rest := []) dX12_sum_57 lX12_193 rfl (Nat.le_of_ble_eq_true rfl) (Nat.le_of_ble_eq_true rfl) rfl ?_
      refine hN h0 _ _ _ hx0 Sn53 (fun l57 p57 c57 v57 j57 b57 vb57 ev57 Sl57 => ?_) (fun e57 v57 w57 j57 n57 vb57 Se57 => ?_)
      · skip
        have r57 := Sl57.2.2.2.2.1
        show ab_X (d + 7) mX12_sum 60 [(2, .int (iI 0)), (0, .ref 200), (1, .int (iI v))] [.int (iI v57)] l57 _
        refine z_i2l dX12_sum_60 (by omega) ?_
        refine ab_lstore_n (ls' := [(3, .long (lL v57)), (2, .int (iI 0)), (0, .ref 200), (1, .int (iI v))]) dX12_sum_61 rfl (by decide) rfl ?_
        refine ab_iload_n (k := 1) dX12_sum_62 rfl rfl ?_
        refine z_if_eq (tgt := 73) dX12_sum_63 (by decide) (by decide) (fun _ => ?_) (fun c63 => absurd c63 (by decide))
        refine ab_iload_n (k := 3) dX12_sum_73 rfl rfl ?_
        refine z_i2l dX12_sum_74 (by omega) ?_
        refine ab_lload_n (k := 0) dX12_sum_75 rfl rfl ?_
        refine z_lsub dX12_sum_76 ?_
        refine ab_callS (As := [.long (lL (v - v57))]) (rest := []) dX12_sum_77 lX12_189 (Nat.le_of_ble_eq_true rfl) (Nat.le_of_ble_eq_true rfl) rfl ?_
        refine c_mwithin (by omega) ?_
        have bw := bnd_b (v - v57)
        show ab_X (d + 7) mX12_sum 80 [(3, .long (lL v57)), (2, .int (iI 0)), (0, .ref 200), (1, .int (iI v))] [.int (iI (bnd (v - v57)))] l57 _
        refine ab_istore_n (ls' := [(1, .int (iI (bnd (v - v57)))), (3, .long (lL v57)), (2, .int (iI 0)), (0, .ref 200)]) dX12_sum_80 rfl (by decide) rfl ?_
        refine ab_goto (tgt := 5) dX12_sum_81 (by decide) ?_
        refine ab_sub (ls' := [(0, .ref 200), (1, .int (iI (bnd (v - v57))))]) (ks := [3, 0]) rfl ?_
        first
        | (exfalso; omega)
        | (obtain ⟨o, ho⟩ : ∃ o, opo 43 45 2 3 (sg T z q) = o := ⟨_, rfl⟩
           have ho2 : (sg T z q = 43 → o = 2) ∧ (¬ sg T z q = 43 → o = 3) ∧ ¬ o = -1 ∧ 2 ≤ o ∧ ¬ o = 9 ∧ o < 12 := by
             rw [← ho]; unfold opo; (repeat' split) <;> omega
           have eJ : bnd (v - v57) = jn o v v57 := by
             unfold jn
             first
             | rw [if_pos (by omega)]
             | rw [if_neg (by omega), if_pos (by omega)]
             | rw [if_neg (by omega), if_neg (by omega), if_pos (by omega)]
             | (rw [if_neg (by omega), if_neg (by omega), if_neg (by omega), if_pos (by omega), if_pos (by omega)]; rfl)
             | rw [if_neg (by omega), if_neg (by omega), if_neg (by omega), if_pos (by omega), if_neg (by omega)]
           refine ih _ (by omega) p57 (i + 1) (c1 ++ (c57 ++ [(o, 0)])) _ _ rfl Sl57 (by omega) (by omega) (by omega) ?_ ?_ ?_
           · first | omega | decide
           · rw [eJ]; exact evp_op hev ev57 (Nat.le_refl _) (by omega)
           · rw [← hR, show 160 - i = (160 - (i + 1)) + 1 by omega]
             exact (seqL_1 ho (by omega) j57).symm)
      · skip
        show ab_X (d + 7) mX12_sum 60 [(2, .int (iI 0)), (0, .ref 200), (1, .int (iI v))] [.int (iI v57)] e57 _
        refine z_i2l dX12_sum_60 (by omega) ?_
        refine ab_lstore_n (ls' := [(3, .long (lL v57)), (2, .int (iI 0)), (0, .ref 200), (1, .int (iI v))]) dX12_sum_61 rfl (by decide) rfl ?_
        refine ab_iload_n (k := 1) dX12_sum_62 rfl rfl ?_
        refine z_if_eq (tgt := 73) dX12_sum_63 (by decide) (by decide) (fun _ => ?_) (fun c63 => absurd c63 (by decide))
        refine ab_iload_n (k := 3) dX12_sum_73 rfl rfl ?_
        refine z_i2l dX12_sum_74 (by omega) ?_
        refine ab_lload_n (k := 0) dX12_sum_75 rfl rfl ?_
        refine z_lsub dX12_sum_76 ?_
        refine ab_callS (As := [.long (lL (v - v57))]) (rest := []) dX12_sum_77 lX12_189 (Nat.le_of_ble_eq_true rfl) (Nat.le_of_ble_eq_true rfl) rfl ?_
        refine c_mwithin (by omega) ?_
        have bw := bnd_b (v - v57)
        show ab_X (d + 7) mX12_sum 80 [(3, .long (lL v57)), (2, .int (iI 0)), (0, .ref 200), (1, .int (iI v))] [.int (iI (bnd (v - v57)))] e57 _
        refine ab_istore_n (ls' := [(1, .int (iI (bnd (v - v57)))), (3, .long (lL v57)), (2, .int (iI 0)), (0, .ref 200)]) dX12_sum_80 rfl (by decide) rfl ?_
        refine ab_goto (tgt := 5) dX12_sum_81 (by decide) ?_
        refine ab_sub (ls' := [(0, .ref 200), (1, .int (iI (bnd (v - v57))))]) (ks := [3, 0]) rfl ?_
        exact dl_msum (T := T) (t := t) (b := b) (n := n) (env := env) Se57 (K0 _ _ _ (by rw [← hR, show 160 - i = (159 - i) + 1 by omega]; exact seqL_2 (by unfold opo; (repeat' split) <;> omega) j57 n57) n57 (by omega) Se57)
    · skip
      refine z_iconst dX12_sum_40 ?_
      refine ab_goto (tgt := 45) dX12_sum_41 (by decide) ?_
      refine ab_istore_n (ls' := [(2, .int (iI 1)), (0, .ref 200), (1, .int (iI v))]) dX12_sum_45 rfl (by decide) rfl ?_
      have zz := sg_in (T := T) (z := z) (p := q) (by omega)
      refine ab_aload_n (k := 1) dX12_sum_46 rfl rfl ?_
      refine ab_dup dX12_sum_47 rfl ?_
      refine z_getI dX12_sum_48 fX12_134 rfl (Or.inl rfl) ?_
      refine z_is (y := (((lk T z q) : Nat) : Int)) Sl32.2.1 ?_
      refine z_iconst dX12_sum_51 ?_
      refine z_iadd dX12_sum_52 ?_
      refine z_putI dX12_sum_53 fX12_134 rfl rfl ?_
      obtain ⟨n53, en53⟩ : ∃ zz : ab_H, zz = zp l32 200 10 ((((lk T z q) : Nat) : Int) + 1) := ⟨_, rfl⟩
      rw [← en53]
      have Sn53 : ML z h0 n53 ((lk T z q) + 1) D := by rw [en53]; exact ML_at Sl32 hz (by omega) (by omega)
      refine ab_aload_n (k := 1) dX12_sum_56 rfl rfl ?_
      refine ab_callV (As := []) (rest := []) dX12_sum_57 lX12_193 rfl (Nat.le_of_ble_eq_true rfl) (Nat.le_of_ble_eq_true rfl) rfl ?_
      refine hN h0 _ _ _ hx0 Sn53 (fun l57 p57 c57 v57 j57 b57 vb57 ev57 Sl57 => ?_) (fun e57 v57 w57 j57 n57 vb57 Se57 => ?_)
      · skip
        have r57 := Sl57.2.2.2.2.1
        show ab_X (d + 7) mX12_sum 60 [(2, .int (iI 1)), (0, .ref 200), (1, .int (iI v))] [.int (iI v57)] l57 _
        refine z_i2l dX12_sum_60 (by omega) ?_
        refine ab_lstore_n (ls' := [(3, .long (lL v57)), (2, .int (iI 1)), (0, .ref 200), (1, .int (iI v))]) dX12_sum_61 rfl (by decide) rfl ?_
        refine ab_iload_n (k := 1) dX12_sum_62 rfl rfl ?_
        refine z_if_eq (tgt := 73) dX12_sum_63 (by decide) (by decide) (fun c63 => absurd c63 (by decide)) (fun _ => ?_)
        refine ab_iload_n (k := 3) dX12_sum_66 rfl rfl ?_
        refine z_i2l dX12_sum_67 (by omega) ?_
        refine ab_lload_n (k := 0) dX12_sum_68 rfl rfl ?_
        refine z_ladd dX12_sum_69 ?_
        refine ab_goto (tgt := 77) dX12_sum_70 (by decide) ?_
        refine ab_callS (As := [.long (lL (v + v57))]) (rest := []) dX12_sum_77 lX12_189 (Nat.le_of_ble_eq_true rfl) (Nat.le_of_ble_eq_true rfl) rfl ?_
        refine c_mwithin (by omega) ?_
        have bw := bnd_b (v + v57)
        show ab_X (d + 7) mX12_sum 80 [(3, .long (lL v57)), (2, .int (iI 1)), (0, .ref 200), (1, .int (iI v))] [.int (iI (bnd (v + v57)))] l57 _
        refine ab_istore_n (ls' := [(1, .int (iI (bnd (v + v57)))), (3, .long (lL v57)), (2, .int (iI 1)), (0, .ref 200)]) dX12_sum_80 rfl (by decide) rfl ?_
        refine ab_goto (tgt := 5) dX12_sum_81 (by decide) ?_
        refine ab_sub (ls' := [(0, .ref 200), (1, .int (iI (bnd (v + v57))))]) (ks := [3, 0]) rfl ?_
        first
        | (exfalso; omega)
        | (obtain ⟨o, ho⟩ : ∃ o, opo 43 45 2 3 (sg T z q) = o := ⟨_, rfl⟩
           have ho2 : (sg T z q = 43 → o = 2) ∧ (¬ sg T z q = 43 → o = 3) ∧ ¬ o = -1 ∧ 2 ≤ o ∧ ¬ o = 9 ∧ o < 12 := by
             rw [← ho]; unfold opo; (repeat' split) <;> omega
           have eJ : bnd (v + v57) = jn o v v57 := by
             unfold jn
             first
             | rw [if_pos (by omega)]
             | rw [if_neg (by omega), if_pos (by omega)]
             | rw [if_neg (by omega), if_neg (by omega), if_pos (by omega)]
             | (rw [if_neg (by omega), if_neg (by omega), if_neg (by omega), if_pos (by omega), if_pos (by omega)]; rfl)
             | rw [if_neg (by omega), if_neg (by omega), if_neg (by omega), if_pos (by omega), if_neg (by omega)]
           refine ih _ (by omega) p57 (i + 1) (c1 ++ (c57 ++ [(o, 0)])) _ _ rfl Sl57 (by omega) (by omega) (by omega) ?_ ?_ ?_
           · first | omega | decide
           · rw [eJ]; exact evp_op hev ev57 (Nat.le_refl _) (by omega)
           · rw [← hR, show 160 - i = (160 - (i + 1)) + 1 by omega]
             exact (seqL_1 ho (by omega) j57).symm)
      · skip
        show ab_X (d + 7) mX12_sum 60 [(2, .int (iI 1)), (0, .ref 200), (1, .int (iI v))] [.int (iI v57)] e57 _
        refine z_i2l dX12_sum_60 (by omega) ?_
        refine ab_lstore_n (ls' := [(3, .long (lL v57)), (2, .int (iI 1)), (0, .ref 200), (1, .int (iI v))]) dX12_sum_61 rfl (by decide) rfl ?_
        refine ab_iload_n (k := 1) dX12_sum_62 rfl rfl ?_
        refine z_if_eq (tgt := 73) dX12_sum_63 (by decide) (by decide) (fun c63 => absurd c63 (by decide)) (fun _ => ?_)
        refine ab_iload_n (k := 3) dX12_sum_66 rfl rfl ?_
        refine z_i2l dX12_sum_67 (by omega) ?_
        refine ab_lload_n (k := 0) dX12_sum_68 rfl rfl ?_
        refine z_ladd dX12_sum_69 ?_
        refine ab_goto (tgt := 77) dX12_sum_70 (by decide) ?_
        refine ab_callS (As := [.long (lL (v + v57))]) (rest := []) dX12_sum_77 lX12_189 (Nat.le_of_ble_eq_true rfl) (Nat.le_of_ble_eq_true rfl) rfl ?_
        refine c_mwithin (by omega) ?_
        have bw := bnd_b (v + v57)
        show ab_X (d + 7) mX12_sum 80 [(3, .long (lL v57)), (2, .int (iI 1)), (0, .ref 200), (1, .int (iI v))] [.int (iI (bnd (v + v57)))] e57 _
        refine ab_istore_n (ls' := [(1, .int (iI (bnd (v + v57)))), (3, .long (lL v57)), (2, .int (iI 1)), (0, .ref 200)]) dX12_sum_80 rfl (by decide) rfl ?_
        refine ab_goto (tgt := 5) dX12_sum_81 (by decide) ?_
        refine ab_sub (ls' := [(0, .ref 200), (1, .int (iI (bnd (v + v57))))]) (ks := [3, 0]) rfl ?_
        exact dl_msum (T := T) (t := t) (b := b) (n := n) (env := env) Se57 (K0 _ _ _ (by rw [← hR, show 160 - i = (159 - i) + 1 by omega]; exact seqL_2 (by unfold opo; (repeat' split) <;> omega) j57 n57) n57 (by omega) Se57)
  · skip
    refine ab_aload_n (k := 0) dX12_sum_22 rfl rfl ?_
    refine ab_callV (As := []) (rest := []) dX12_sum_23 lX12_153 rfl (Nat.le_of_ble_eq_true rfl) (Nat.le_of_ble_eq_true rfl) rfl ?_
    refine c_mlook2 ht hx0 Sl14 (fun l23 Sl23 => ?_)
    have y23 := sg_b ht q
    show ab_X (d + 7) mX12_sum 26 [(0, .ref 200), (1, .int (iI v))] [.int (iI (sg T z q))] l23 _
    refine z_bipush dX12_sum_26 (by decide) ?_
    refine z_icmp_ne (tgt := 84) dX12_sum_28 (by decide) (by omega) (by decide) (fun c28 => ?_) (fun c28 => ?_)
    · skip
      refine ab_iload_n (k := 1) dX12_sum_84 rfl rfl ?_
      refine z_iret dX12_sum_85 rfl ?_
      have e3 := seqL_n (T := T) (z := z) (next := nx) (a := 43) (b := 45) (oa := 2) (ob := 3) (p := q) (c := c1) (by unfold opo; rw [if_neg (by omega), if_neg (by omega)]) (160 - i)
      rw [hR] at e3
      exact K1 _ _ _ _ e3 (by omega) hv hev Sl23
    · skip
      refine ab_aload_n (k := 0) dX12_sum_31 rfl rfl ?_
      refine ab_callV (As := []) (rest := []) dX12_sum_32 lX12_153 rfl (Nat.le_of_ble_eq_true rfl) (Nat.le_of_ble_eq_true rfl) rfl ?_
      refine c_mlook2 ht hx0 Sl23 (fun l32 Sl32 => ?_)
      have y32 := sg_b ht q
      show ab_X (d + 7) mX12_sum 35 [(0, .ref 200), (1, .int (iI v))] [.int (iI (sg T z q))] l32 _
      refine z_bipush dX12_sum_35 (by decide) ?_
      refine z_icmp_ne (tgt := 44) dX12_sum_37 (by decide) (by omega) (by decide) (fun c37 => ?_) (fun c37 => ?_)
      · skip
        refine z_iconst dX12_sum_44 ?_
        refine ab_istore_n (ls' := [(2, .int (iI 0)), (0, .ref 200), (1, .int (iI v))]) dX12_sum_45 rfl (by decide) rfl ?_
        have zz := sg_in (T := T) (z := z) (p := q) (by omega)
        refine ab_aload_n (k := 1) dX12_sum_46 rfl rfl ?_
        refine ab_dup dX12_sum_47 rfl ?_
        refine z_getI dX12_sum_48 fX12_134 rfl (Or.inl rfl) ?_
        refine z_is (y := (((lk T z q) : Nat) : Int)) Sl32.2.1 ?_
        refine z_iconst dX12_sum_51 ?_
        refine z_iadd dX12_sum_52 ?_
        refine z_putI dX12_sum_53 fX12_134 rfl rfl ?_
        obtain ⟨n53, en53⟩ : ∃ zz : ab_H, zz = zp l32 200 10 ((((lk T z q) : Nat) : Int) + 1) := ⟨_, rfl⟩
        rw [← en53]
        have Sn53 : ML z h0 n53 ((lk T z q) + 1) D := by rw [en53]; exact ML_at Sl32 hz (by omega) (by omega)
        refine ab_aload_n (k := 1) dX12_sum_56 rfl rfl ?_
        refine ab_callV (As := []) (rest := []) dX12_sum_57 lX12_193 rfl (Nat.le_of_ble_eq_true rfl) (Nat.le_of_ble_eq_true rfl) rfl ?_
        refine hN h0 _ _ _ hx0 Sn53 (fun l57 p57 c57 v57 j57 b57 vb57 ev57 Sl57 => ?_) (fun e57 v57 w57 j57 n57 vb57 Se57 => ?_)
        · skip
          have r57 := Sl57.2.2.2.2.1
          show ab_X (d + 7) mX12_sum 60 [(2, .int (iI 0)), (0, .ref 200), (1, .int (iI v))] [.int (iI v57)] l57 _
          refine z_i2l dX12_sum_60 (by omega) ?_
          refine ab_lstore_n (ls' := [(3, .long (lL v57)), (2, .int (iI 0)), (0, .ref 200), (1, .int (iI v))]) dX12_sum_61 rfl (by decide) rfl ?_
          refine ab_iload_n (k := 1) dX12_sum_62 rfl rfl ?_
          refine z_if_eq (tgt := 73) dX12_sum_63 (by decide) (by decide) (fun _ => ?_) (fun c63 => absurd c63 (by decide))
          refine ab_iload_n (k := 3) dX12_sum_73 rfl rfl ?_
          refine z_i2l dX12_sum_74 (by omega) ?_
          refine ab_lload_n (k := 0) dX12_sum_75 rfl rfl ?_
          refine z_lsub dX12_sum_76 ?_
          refine ab_callS (As := [.long (lL (v - v57))]) (rest := []) dX12_sum_77 lX12_189 (Nat.le_of_ble_eq_true rfl) (Nat.le_of_ble_eq_true rfl) rfl ?_
          refine c_mwithin (by omega) ?_
          have bw := bnd_b (v - v57)
          show ab_X (d + 7) mX12_sum 80 [(3, .long (lL v57)), (2, .int (iI 0)), (0, .ref 200), (1, .int (iI v))] [.int (iI (bnd (v - v57)))] l57 _
          refine ab_istore_n (ls' := [(1, .int (iI (bnd (v - v57)))), (3, .long (lL v57)), (2, .int (iI 0)), (0, .ref 200)]) dX12_sum_80 rfl (by decide) rfl ?_
          refine ab_goto (tgt := 5) dX12_sum_81 (by decide) ?_
          refine ab_sub (ls' := [(0, .ref 200), (1, .int (iI (bnd (v - v57))))]) (ks := [3, 0]) rfl ?_
          first
          | (exfalso; omega)
          | (obtain ⟨o, ho⟩ : ∃ o, opo 43 45 2 3 (sg T z q) = o := ⟨_, rfl⟩
             have ho2 : (sg T z q = 43 → o = 2) ∧ (¬ sg T z q = 43 → o = 3) ∧ ¬ o = -1 ∧ 2 ≤ o ∧ ¬ o = 9 ∧ o < 12 := by
               rw [← ho]; unfold opo; (repeat' split) <;> omega
             have eJ : bnd (v - v57) = jn o v v57 := by
               unfold jn
               first
               | rw [if_pos (by omega)]
               | rw [if_neg (by omega), if_pos (by omega)]
               | rw [if_neg (by omega), if_neg (by omega), if_pos (by omega)]
               | (rw [if_neg (by omega), if_neg (by omega), if_neg (by omega), if_pos (by omega), if_pos (by omega)]; rfl)
               | rw [if_neg (by omega), if_neg (by omega), if_neg (by omega), if_pos (by omega), if_neg (by omega)]
             refine ih _ (by omega) p57 (i + 1) (c1 ++ (c57 ++ [(o, 0)])) _ _ rfl Sl57 (by omega) (by omega) (by omega) ?_ ?_ ?_
             · first | omega | decide
             · rw [eJ]; exact evp_op hev ev57 (Nat.le_refl _) (by omega)
             · rw [← hR, show 160 - i = (160 - (i + 1)) + 1 by omega]
               exact (seqL_1 ho (by omega) j57).symm)
        · skip
          show ab_X (d + 7) mX12_sum 60 [(2, .int (iI 0)), (0, .ref 200), (1, .int (iI v))] [.int (iI v57)] e57 _
          refine z_i2l dX12_sum_60 (by omega) ?_
          refine ab_lstore_n (ls' := [(3, .long (lL v57)), (2, .int (iI 0)), (0, .ref 200), (1, .int (iI v))]) dX12_sum_61 rfl (by decide) rfl ?_
          refine ab_iload_n (k := 1) dX12_sum_62 rfl rfl ?_
          refine z_if_eq (tgt := 73) dX12_sum_63 (by decide) (by decide) (fun _ => ?_) (fun c63 => absurd c63 (by decide))
          refine ab_iload_n (k := 3) dX12_sum_73 rfl rfl ?_
          refine z_i2l dX12_sum_74 (by omega) ?_
          refine ab_lload_n (k := 0) dX12_sum_75 rfl rfl ?_
          refine z_lsub dX12_sum_76 ?_
          refine ab_callS (As := [.long (lL (v - v57))]) (rest := []) dX12_sum_77 lX12_189 (Nat.le_of_ble_eq_true rfl) (Nat.le_of_ble_eq_true rfl) rfl ?_
          refine c_mwithin (by omega) ?_
          have bw := bnd_b (v - v57)
          show ab_X (d + 7) mX12_sum 80 [(3, .long (lL v57)), (2, .int (iI 0)), (0, .ref 200), (1, .int (iI v))] [.int (iI (bnd (v - v57)))] e57 _
          refine ab_istore_n (ls' := [(1, .int (iI (bnd (v - v57)))), (3, .long (lL v57)), (2, .int (iI 0)), (0, .ref 200)]) dX12_sum_80 rfl (by decide) rfl ?_
          refine ab_goto (tgt := 5) dX12_sum_81 (by decide) ?_
          refine ab_sub (ls' := [(0, .ref 200), (1, .int (iI (bnd (v - v57))))]) (ks := [3, 0]) rfl ?_
          exact dl_msum (T := T) (t := t) (b := b) (n := n) (env := env) Se57 (K0 _ _ _ (by rw [← hR, show 160 - i = (159 - i) + 1 by omega]; exact seqL_2 (by unfold opo; (repeat' split) <;> omega) j57 n57) n57 (by omega) Se57)
      · skip
        refine z_iconst dX12_sum_40 ?_
        refine ab_goto (tgt := 45) dX12_sum_41 (by decide) ?_
        refine ab_istore_n (ls' := [(2, .int (iI 1)), (0, .ref 200), (1, .int (iI v))]) dX12_sum_45 rfl (by decide) rfl ?_
        have zz := sg_in (T := T) (z := z) (p := q) (by omega)
        refine ab_aload_n (k := 1) dX12_sum_46 rfl rfl ?_
        refine ab_dup dX12_sum_47 rfl ?_
        refine z_getI dX12_sum_48 fX12_134 rfl (Or.inl rfl) ?_
        refine z_is (y := (((lk T z q) : Nat) : Int)) Sl32.2.1 ?_
        refine z_iconst dX12_sum_51 ?_
        refine z_iadd dX12_sum_52 ?_
        refine z_putI dX12_sum_53 fX12_134 rfl rfl ?_
        obtain ⟨n53, en53⟩ : ∃ zz : ab_H, zz = zp l32 200 10 ((((lk T z q) : Nat) : Int) + 1) := ⟨_, rfl⟩
        rw [← en53]
        have Sn53 : ML z h0 n53 ((lk T z q) + 1) D := by rw [en53]; exact ML_at Sl32 hz (by omega) (by omega)
        refine ab_aload_n (k := 1) dX12_sum_56 rfl rfl ?_
        refine ab_callV (As := []) (rest := []) dX12_sum_57 lX12_193 rfl (Nat.le_of_ble_eq_true rfl) (Nat.le_of_ble_eq_true rfl) rfl ?_
        refine hN h0 _ _ _ hx0 Sn53 (fun l57 p57 c57 v57 j57 b57 vb57 ev57 Sl57 => ?_) (fun e57 v57 w57 j57 n57 vb57 Se57 => ?_)
        · skip
          have r57 := Sl57.2.2.2.2.1
          show ab_X (d + 7) mX12_sum 60 [(2, .int (iI 1)), (0, .ref 200), (1, .int (iI v))] [.int (iI v57)] l57 _
          refine z_i2l dX12_sum_60 (by omega) ?_
          refine ab_lstore_n (ls' := [(3, .long (lL v57)), (2, .int (iI 1)), (0, .ref 200), (1, .int (iI v))]) dX12_sum_61 rfl (by decide) rfl ?_
          refine ab_iload_n (k := 1) dX12_sum_62 rfl rfl ?_
          refine z_if_eq (tgt := 73) dX12_sum_63 (by decide) (by decide) (fun c63 => absurd c63 (by decide)) (fun _ => ?_)
          refine ab_iload_n (k := 3) dX12_sum_66 rfl rfl ?_
          refine z_i2l dX12_sum_67 (by omega) ?_
          refine ab_lload_n (k := 0) dX12_sum_68 rfl rfl ?_
          refine z_ladd dX12_sum_69 ?_
          refine ab_goto (tgt := 77) dX12_sum_70 (by decide) ?_
          refine ab_callS (As := [.long (lL (v + v57))]) (rest := []) dX12_sum_77 lX12_189 (Nat.le_of_ble_eq_true rfl) (Nat.le_of_ble_eq_true rfl) rfl ?_
          refine c_mwithin (by omega) ?_
          have bw := bnd_b (v + v57)
          show ab_X (d + 7) mX12_sum 80 [(3, .long (lL v57)), (2, .int (iI 1)), (0, .ref 200), (1, .int (iI v))] [.int (iI (bnd (v + v57)))] l57 _
          refine ab_istore_n (ls' := [(1, .int (iI (bnd (v + v57)))), (3, .long (lL v57)), (2, .int (iI 1)), (0, .ref 200)]) dX12_sum_80 rfl (by decide) rfl ?_
          refine ab_goto (tgt := 5) dX12_sum_81 (by decide) ?_
          refine ab_sub (ls' := [(0, .ref 200), (1, .int (iI (bnd (v + v57))))]) (ks := [3, 0]) rfl ?_
          first
          | (exfalso; omega)
          | (obtain ⟨o, ho⟩ : ∃ o, opo 43 45 2 3 (sg T z q) = o := ⟨_, rfl⟩
             have ho2 : (sg T z q = 43 → o = 2) ∧ (¬ sg T z q = 43 → o = 3) ∧ ¬ o = -1 ∧ 2 ≤ o ∧ ¬ o = 9 ∧ o < 12 := by
               rw [← ho]; unfold opo; (repeat' split) <;> omega
             have eJ : bnd (v + v57) = jn o v v57 := by
               unfold jn
               first
               | rw [if_pos (by omega)]
               | rw [if_neg (by omega), if_pos (by omega)]
               | rw [if_neg (by omega), if_neg (by omega), if_pos (by omega)]
               | (rw [if_neg (by omega), if_neg (by omega), if_neg (by omega), if_pos (by omega), if_pos (by omega)]; rfl)
               | rw [if_neg (by omega), if_neg (by omega), if_neg (by omega), if_pos (by omega), if_neg (by omega)]
             refine ih _ (by omega) p57 (i + 1) (c1 ++ (c57 ++ [(o, 0)])) _ _ rfl Sl57 (by omega) (by omega) (by omega) ?_ ?_ ?_
             · first | omega | decide
             · rw [eJ]; exact evp_op hev ev57 (Nat.le_refl _) (by omega)
             · rw [← hR, show 160 - i = (160 - (i + 1)) + 1 by omega]
               exact (seqL_1 ho (by omega) j57).symm)
        · skip
          show ab_X (d + 7) mX12_sum 60 [(2, .int (iI 1)), (0, .ref 200), (1, .int (iI v))] [.int (iI v57)] e57 _
          refine z_i2l dX12_sum_60 (by omega) ?_
          refine ab_lstore_n (ls' := [(3, .long (lL v57)), (2, .int (iI 1)), (0, .ref 200), (1, .int (iI v))]) dX12_sum_61 rfl (by decide) rfl ?_
          refine ab_iload_n (k := 1) dX12_sum_62 rfl rfl ?_
          refine z_if_eq (tgt := 73) dX12_sum_63 (by decide) (by decide) (fun c63 => absurd c63 (by decide)) (fun _ => ?_)
          refine ab_iload_n (k := 3) dX12_sum_66 rfl rfl ?_
          refine z_i2l dX12_sum_67 (by omega) ?_
          refine ab_lload_n (k := 0) dX12_sum_68 rfl rfl ?_
          refine z_ladd dX12_sum_69 ?_
          refine ab_goto (tgt := 77) dX12_sum_70 (by decide) ?_
          refine ab_callS (As := [.long (lL (v + v57))]) (rest := []) dX12_sum_77 lX12_189 (Nat.le_of_ble_eq_true rfl) (Nat.le_of_ble_eq_true rfl) rfl ?_
          refine c_mwithin (by omega) ?_
          have bw := bnd_b (v + v57)
          show ab_X (d + 7) mX12_sum 80 [(3, .long (lL v57)), (2, .int (iI 1)), (0, .ref 200), (1, .int (iI v))] [.int (iI (bnd (v + v57)))] e57 _
          refine ab_istore_n (ls' := [(1, .int (iI (bnd (v + v57)))), (3, .long (lL v57)), (2, .int (iI 1)), (0, .ref 200)]) dX12_sum_80 rfl (by decide) rfl ?_
          refine ab_goto (tgt := 5) dX12_sum_81 (by decide) ?_
          refine ab_sub (ls' := [(0, .ref 200), (1, .int (iI (bnd (v + v57))))]) (ks := [3, 0]) rfl ?_
          exact dl_msum (T := T) (t := t) (b := b) (n := n) (env := env) Se57 (K0 _ _ _ (by rw [← hR, show 160 - i = (159 - i) + 1 by omega]; exact seqL_2 (by unfold opo; (repeat' split) <;> omega) j57 n57) n57 (by omega) Se57)
theorem c_msum0 {d : Nat} {h : ab_H} {Q : ab_Q} {T : Nat → Int} {z t b n : Nat} {env : Nat → Int} {h0 : ab_H} {p D : Nat} {B : Nat} {fs nx : Nat → pR}  (ht : tx T z) (hx0 : MX T z t b n env h0) (hF : mdI T z t b n env mX12_term [.ref 200] fs D B (d + 6)) (hN : mdI T z t b n env mX12_term [.ref 200] nx D B (d + 6)) (Sh : ML z h0 h p D) (K1 : ∀ h' p' c' v, seqF T z fs nx 43 45 2 3 p = (-1, p', c') → p ≤ p' → (-1000000 ≤ v ∧ v ≤ 1000000) → evp env [] c' v (B + 1) → ML z h0 h' p' D → Q (some (.int (iI v))) h') (K0 : ∀ h' v w, (seqF T z fs nx 43 45 2 3 p).1 = w → ¬ w = -1 → inR v → MD z h0 h' w → Q (some (.int (iI v))) h') : ab_X (d + 7) mX12_sum 0 (lv_args 0 [.ref 200]) [] h Q := by
  show ab_X (d + 7) mX12_sum 0 [(0, .ref 200)] [] h Q
  have hz := ht.1
  have hx := MX_F hx0 Sh.1
  have hk := hx.2.2.2.2.1
  have hbn := hx.2.2.2.2.2.1
  have hn1 := hx.2.2.2.2.2.2.1
  have hpz := Sh.2.2.2.2.1
  refine ab_aload_n (k := 0) dX12_sum_0 rfl rfl ?_
  refine ab_callV (As := []) (rest := []) dX12_sum_1 lX12_193 rfl (Nat.le_of_ble_eq_true rfl) (Nat.le_of_ble_eq_true rfl) rfl ?_
  refine hF h0 _ _ _ hx0 Sh (fun l1 p1 c1 v1 j1 b1 vb1 ev1 Sl1 => ?_) (fun e1 v1 w1 j1 n1 vb1 Se1 => ?_)
  · skip
    have r1 := Sl1.2.2.2.2.1
    show ab_X (d + 7) mX12_sum 4 [(0, .ref 200)] [.int (iI v1)] l1 _
    refine ab_istore_n (ls' := [(1, .int (iI v1)), (0, .ref 200)]) dX12_sum_4 rfl (by decide) rfl ?_
    refine ab_sub (ls' := [(0, .ref 200), (1, .int (iI v1))]) (ks := [1, 0]) rfl ?_
    exact lp_msum (R := seqF T z fs nx 43 45 2 3 p) (p0 := p) ht hx0 hN K1 K0 _ p1 0 c1 v1 _ rfl Sl1 (by omega) (by omega) (by omega) vb1 (evp_mono ev1 (by omega)) (seq_1 j1).symm
  · skip
    show ab_X (d + 7) mX12_sum 4 [(0, .ref 200)] [.int (iI v1)] e1 _
    refine ab_istore_n (ls' := [(1, .int (iI v1)), (0, .ref 200)]) dX12_sum_4 rfl (by decide) rfl ?_
    refine ab_sub (ls' := [(0, .ref 200), (1, .int (iI v1))]) (ks := [1, 0]) rfl ?_
    exact dl_msum (T := T) (t := t) (b := b) (n := n) (env := env) Se1 (K0 _ _ _ (seq_2 j1 n1) n1 vb1 Se1)
