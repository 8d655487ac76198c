/-! THE MODEL READS A KERB: items -/
def KX (T : Nat → Int) (z : Nat) (h : ab_H) : Prop := zv h 200 9 = (z : Int) ∧ zv h 200 8 = 0 ∧ h.2.2 = 201 ∧ ∀ i, i < z → zv h 201 i = sby (T i)
def MK (T : Nat → Int) (z : Nat) (h : ab_H) (p : Nat) : Prop := KX T z h ∧ zv h 200 10 = (p : Int) ∧ zv h 200 11 = -1 ∧ p ≤ z
def eq2 (h h' : ab_H) : Prop := (∀ a j, ¬ (a = 200 ∧ (j = 10 ∨ j = 11)) → zv h' a j = zv h a j) ∧ h'.2.2 = h.2.2
theorem eq2.rf {h : ab_H} : eq2 h h := ⟨fun _ _ _ => rfl, rfl⟩
theorem eq2.tr {a b c : ab_H} (x : eq2 a b) (y : eq2 b c) : eq2 a c := ⟨fun p q r => (y.1 p q r).trans (x.1 p q r), y.2.trans x.2⟩
theorem eq2_z {h : ab_H} {j : Nat} {x : Int} (hj : j = 10 ∨ j = 11) : eq2 h (zp h 200 j x) := ⟨fun a i q => zv_zp_ne (by omega), rfl⟩
theorem KX_2 {T : Nat → Int} {z : Nat} {h h' : ab_H} (x : KX T z h) (e : eq2 h h') : KX T z h' := ⟨(e.1 200 9 (by omega)).trans x.1, (e.1 200 8 (by omega)).trans x.2.1, e.2.trans x.2.2.1, fun i hi => (e.1 201 i (by omega)).trans (x.2.2.2 i hi)⟩
theorem MK_at {T : Nat → Int} {z p q : Nat} {h : ab_H} {x : Int} (S : MK T z h p) (hz : z ≤ 160) (hx : x = (q : Int)) (hq : q ≤ z) : MK T z (zp h 200 10 x) q := ⟨KX_2 S.1 (eq2_z (by omega)), by rw [zv_zp_s (by omega)]; exact hx, by rw [zv_zp_ne (by decide)]; exact S.2.2.1, hq⟩
theorem ktx {T : Nat → Int} {z : Nat} {h : ab_H} (x : KX T z h) : ab_P h.2.2 200 5 = 201 := by rw [x.2.2.1]; rfl
theorem kby {T : Nat → Int} {z p : Nat} {h : ab_H} (x : KX T z h) (hp : p < z) : zv h 201 (0 + (p : Int)).toNat = sby (T p) := by
  rw [show (0 + (p : Int)).toNat = p by omega]; exact x.2.2.2 p hp
theorem lp_klook {d : Nat} {Q : ab_Q} {h0 : ab_H} {T : Nat → Int} {z p0 : Nat}  (ht : tx T z) (K : ∀ h', eq2 h0 h' → MK T z h' (lk T z p0) → Q (some (.int (iI (sg T z p0)))) h') : ∀ (nn : Nat) (p : Nat) (h : ab_H), z - p = nn → (eq2 h0 h) → (MK T z h p) → (lk T z p = lk T z p0) → ab_X d mX12_look 0 [(0, .ref 200)] [] h Q := by
  intro nn
  induction nn using Nat.strongRecOn with
  | ind nn ih =>
  intro p h hnn he Sh hp
  have hz := ht.1
  have hx := Sh.1
  have hpz := Sh.2.2.2
  refine ab_aload_n (k := 0) dX12_look_0 rfl rfl ?_
  refine z_getI dX12_look_1 fX12_134 rfl (Or.inl rfl) ?_
  refine z_is (y := (p : Int)) Sh.2.1 ?_
  refine ab_aload_n (k := 0) dX12_look_4 rfl rfl ?_
  refine z_getI dX12_look_5 fX12_137 rfl (Or.inl rfl) ?_
  refine z_is (y := (z : Int)) hx.1 ?_
  refine z_icmp_ge (tgt := 43) dX12_look_8 (by decide) (by omega) (by omega) (fun c8 => ?_) (fun c8 => ?_)
  · skip
    refine ab_aload_n (k := 0) dX12_look_43 rfl rfl ?_
    refine z_getI dX12_look_44 fX12_134 rfl (Or.inl rfl) ?_
    refine z_is (y := (p : Int)) Sh.2.1 ?_
    refine ab_aload_n (k := 0) dX12_look_47 rfl rfl ?_
    refine z_getI dX12_look_48 fX12_137 rfl (Or.inl rfl) ?_
    refine z_is (y := (z : Int)) hx.1 ?_
    refine z_icmp_ge (tgt := 75) dX12_look_51 (by decide) (by omega) (by omega) (fun c51 => ?_) (fun c51 => ?_)
    · skip
      refine z_iconst dX12_look_75 ?_
      refine z_iret dX12_look_76 rfl ?_
      have e := lk_n (T := T) (z := z) (p := p) (by omega)
      have e2 : sg T z p0 = sg T z p := by unfold sg; rw [hp]
      rw [← hp, e, e2] at K
      first
      | (rw [show sg T z p = T p by unfold sg; rw [e, if_pos (by omega)]] at K; exact K h he Sh)
      | (rw [show sg T z p = -1 by unfold sg; rw [e, if_neg (by omega)]] at K; exact K h he Sh)
    · skip
      refine ab_aload_n (k := 0) dX12_look_54 rfl rfl ?_
      refine z_getP (b := 201) dX12_look_55 fX12_23 rfl rfl (ktx hx) ?_
      refine ab_aload_n (k := 0) dX12_look_58 rfl rfl ?_
      refine z_getI dX12_look_59 fX12_140 rfl (Or.inl rfl) ?_
      refine z_is (y := 0) hx.2.1 ?_
      refine ab_aload_n (k := 0) dX12_look_62 rfl rfl ?_
      refine z_getI dX12_look_63 fX12_134 rfl (Or.inl rfl) ?_
      refine z_is (y := (p : Int)) Sh.2.1 ?_
      refine z_iadd dX12_look_66 ?_
      refine z_bald dX12_look_67 (Or.inl rfl) (by omega) (by omega) ?_
      refine z_is (y := sby (T p)) (kby hx (by omega)) ?_
      have hT := ht.2 p (by omega)
      have hTs := sby_c hT
      refine z_sipush dX12_look_68 (by decide) ?_
      refine ab_iand dX12_look_71 ?_
      refine z_top ?_
      refine z_is (y := T p) (sby_and hT) ?_
      refine ab_goto (tgt := 76) dX12_look_72 (by decide) ?_
      refine z_iret dX12_look_76 rfl ?_
      have e := lk_n (T := T) (z := z) (p := p) (by omega)
      have e2 : sg T z p0 = sg T z p := by unfold sg; rw [hp]
      rw [← hp, e, e2] at K
      first
      | (rw [show sg T z p = T p by unfold sg; rw [e, if_pos (by omega)]] at K; exact K h he Sh)
      | (rw [show sg T z p = -1 by unfold sg; rw [e, if_neg (by omega)]] at K; exact K h he Sh)
  · skip
    refine ab_aload_n (k := 0) dX12_look_11 rfl rfl ?_
    refine z_getP (b := 201) dX12_look_12 fX12_23 rfl rfl (ktx hx) ?_
    refine ab_aload_n (k := 0) dX12_look_15 rfl rfl ?_
    refine z_getI dX12_look_16 fX12_140 rfl (Or.inl rfl) ?_
    refine z_is (y := 0) hx.2.1 ?_
    refine ab_aload_n (k := 0) dX12_look_19 rfl rfl ?_
    refine z_getI dX12_look_20 fX12_134 rfl (Or.inl rfl) ?_
    refine z_is (y := (p : Int)) Sh.2.1 ?_
    refine z_iadd dX12_look_23 ?_
    refine z_bald dX12_look_24 (Or.inl rfl) (by omega) (by omega) ?_
    refine z_is (y := sby (T p)) (kby hx (by omega)) ?_
    have hT := ht.2 p (by omega)
    have hTs := sby_c hT
    refine z_bipush dX12_look_25 (by decide) ?_
    refine z_icmp_ne (tgt := 43) dX12_look_27 (by decide) (by omega) (by decide) (fun c27 => ?_) (fun c27 => ?_)
    · skip
      refine ab_aload_n (k := 0) dX12_look_43 rfl rfl ?_
      refine z_getI dX12_look_44 fX12_134 rfl (Or.inl rfl) ?_
      refine z_is (y := (p : Int)) Sh.2.1 ?_
      refine ab_aload_n (k := 0) dX12_look_47 rfl rfl ?_
      refine z_getI dX12_look_48 fX12_137 rfl (Or.inl rfl) ?_
      refine z_is (y := (z : Int)) hx.1 ?_
      refine z_icmp_ge (tgt := 75) dX12_look_51 (by decide) (by omega) (by omega) (fun c51 => ?_) (fun c51 => ?_)
      · skip
        refine z_iconst dX12_look_75 ?_
        refine z_iret dX12_look_76 rfl ?_
        have e := lk_n (T := T) (z := z) (p := p) (by omega)
        have e2 : sg T z p0 = sg T z p := by unfold sg; rw [hp]
        rw [← hp, e, e2] at K
        first
        | (rw [show sg T z p = T p by unfold sg; rw [e, if_pos (by omega)]] at K; exact K h he Sh)
        | (rw [show sg T z p = -1 by unfold sg; rw [e, if_neg (by omega)]] at K; exact K h he Sh)
      · skip
        refine ab_aload_n (k := 0) dX12_look_54 rfl rfl ?_
        refine z_getP (b := 201) dX12_look_55 fX12_23 rfl rfl (ktx hx) ?_
        refine ab_aload_n (k := 0) dX12_look_58 rfl rfl ?_
        refine z_getI dX12_look_59 fX12_140 rfl (Or.inl rfl) ?_
        refine z_is (y := 0) hx.2.1 ?_
        refine ab_aload_n (k := 0) dX12_look_62 rfl rfl ?_
        refine z_getI dX12_look_63 fX12_134 rfl (Or.inl rfl) ?_
        refine z_is (y := (p : Int)) Sh.2.1 ?_
        refine z_iadd dX12_look_66 ?_
        refine z_bald dX12_look_67 (Or.inl rfl) (by omega) (by omega) ?_
        refine z_is (y := sby (T p)) (kby hx (by omega)) ?_
        have hT := ht.2 p (by omega)
        have hTs := sby_c hT
        refine z_sipush dX12_look_68 (by decide) ?_
        refine ab_iand dX12_look_71 ?_
        refine z_top ?_
        refine z_is (y := T p) (sby_and hT) ?_
        refine ab_goto (tgt := 76) dX12_look_72 (by decide) ?_
        refine z_iret dX12_look_76 rfl ?_
        have e := lk_n (T := T) (z := z) (p := p) (by omega)
        have e2 : sg T z p0 = sg T z p := by unfold sg; rw [hp]
        rw [← hp, e, e2] at K
        first
        | (rw [show sg T z p = T p by unfold sg; rw [e, if_pos (by omega)]] at K; exact K h he Sh)
        | (rw [show sg T z p = -1 by unfold sg; rw [e, if_neg (by omega)]] at K; exact K h he Sh)
    · skip
      refine ab_aload_n (k := 0) dX12_look_30 rfl rfl ?_
      refine ab_dup dX12_look_31 rfl ?_
      refine z_getI dX12_look_32 fX12_134 rfl (Or.inl rfl) ?_
      refine z_is (y := (p : Int)) Sh.2.1 ?_
      refine z_iconst dX12_look_35 ?_
      refine z_iadd dX12_look_36 ?_
      refine z_putI dX12_look_37 fX12_134 rfl rfl ?_
      refine ab_goto (tgt := 0) dX12_look_40 (by decide) ?_
      refine ab_sub (ls' := [(0, .ref 200)]) (ks := [0]) rfl ?_
      exact ih _ (by omega) (p + 1) _ rfl (he.tr (eq2_z (by omega))) (MK_at Sh hz (by omega) (by omega)) (by rw [← hp]; exact (lk_s ⟨by omega, by omega⟩).symm)
theorem c_klook {d : Nat} {h : ab_H} {Q : ab_Q} {T : Nat → Int} {z p : Nat} (ht : tx T z) (S : MK T z h p) (K : ∀ h', eq2 h h' → MK T z h' (lk T z p) → Q (some (.int (iI (sg T z p)))) h') : ab_X d mX12_look 0 (lv_args 0 [.ref 200]) [] h Q := lp_klook ht K _ p h rfl eq2.rf S rfl
theorem c_kfails {d : Nat} {h : ab_H} {Q : ab_Q} {T : Nat → Int} {z p : Nat}  (ht : tx T z) (Sh : MK T z h p) (K : ∀ h', eq2 h h' → zv h' 200 11 = (p : Int) → Q (some (.int (iI 0))) h') : ab_X d mX12_fails 0 (lv_args 0 [.ref 200]) [] h Q := by
  show ab_X d mX12_fails 0 [(0, .ref 200)] [] h Q
  have hz := ht.1
  have hx := Sh.1
  have hpz := Sh.2.2.2
  refine ab_aload_n (k := 0) dX12_fails_0 rfl rfl ?_
  refine z_getI dX12_fails_1 fX12_143 rfl (Or.inl rfl) ?_
  refine z_is (y := (-1)) Sh.2.2.1 ?_
  refine z_iconst dX12_fails_4 ?_
  refine z_icmp_ne (tgt := 16) dX12_fails_5 (by decide) (by decide) (by decide) (fun c5 => absurd c5 (by decide)) (fun _ => ?_)
  refine ab_aload_n (k := 0) dX12_fails_8 rfl rfl ?_
  refine ab_aload_n (k := 0) dX12_fails_9 rfl rfl ?_
  refine z_getI dX12_fails_10 fX12_134 rfl (Or.inl rfl) ?_
  refine z_is (y := (p : Int)) Sh.2.1 ?_
  refine z_putI dX12_fails_13 fX12_143 rfl rfl ?_
  refine z_iconst dX12_fails_16 ?_
  refine z_zret dX12_fails_17 rfl (Or.inl rfl) ?_
  first | exact K _ (eq2_z (by omega)) (zv_zp_s (by omega)) | (exfalso; omega)
theorem c_kDigit {d : Nat} {h : ab_H} {Q : ab_Q} {T : Nat → Int} {z p : Nat}  (ht : tx T z) (Sh : MK T z h p) (k1 : dg T z p → Q (some (.int (iI 1))) h) (k0 : ¬ dg T z p → Q (some (.int (iI 0))) h) : ab_X d mX12_isDigit 0 (lv_args 0 [.ref 200]) [] h Q := by
  show ab_X d mX12_isDigit 0 [(0, .ref 200)] [] h Q
  have hz := ht.1
  have hx := Sh.1
  have hpz := Sh.2.2.2
  refine ab_aload_n (k := 0) dX12_isDigit_0 rfl rfl ?_
  refine z_getI dX12_isDigit_1 fX12_134 rfl (Or.inl rfl) ?_
  refine z_is (y := (p : Int)) Sh.2.1 ?_
  refine ab_aload_n (k := 0) dX12_isDigit_4 rfl rfl ?_
  refine z_getI dX12_isDigit_5 fX12_137 rfl (Or.inl rfl) ?_
  refine z_is (y := (z : Int)) hx.1 ?_
  refine z_icmp_ge (tgt := 53) dX12_isDigit_8 (by decide) (by omega) (by omega) (fun c8 => ?_) (fun c8 => ?_)
  · skip
    refine z_iconst dX12_isDigit_53 ?_
    refine z_zret dX12_isDigit_54 rfl (Or.inl rfl) ?_
    first | exact k1 ⟨by omega, by omega, by omega⟩ | exact k0 (fun q => by obtain ⟨q1, q2, q3⟩ := q; omega)
  · skip
    refine ab_aload_n (k := 0) dX12_isDigit_11 rfl rfl ?_
    refine z_getP (b := 201) dX12_isDigit_12 fX12_23 rfl rfl (ktx hx) ?_
    refine ab_aload_n (k := 0) dX12_isDigit_15 rfl rfl ?_
    refine z_getI dX12_isDigit_16 fX12_140 rfl (Or.inl rfl) ?_
    refine z_is (y := 0) hx.2.1 ?_
    refine ab_aload_n (k := 0) dX12_isDigit_19 rfl rfl ?_
    refine z_getI dX12_isDigit_20 fX12_134 rfl (Or.inl rfl) ?_
    refine z_is (y := (p : Int)) Sh.2.1 ?_
    refine z_iadd dX12_isDigit_23 ?_
    refine z_bald dX12_isDigit_24 (Or.inl rfl) (by omega) (by omega) ?_
    refine z_is (y := sby (T p)) (kby hx (by omega)) ?_
    have hT := ht.2 p (by omega)
    have hTs := sby_c hT
    refine z_bipush dX12_isDigit_25 (by decide) ?_
    refine z_icmp_lt (tgt := 53) dX12_isDigit_27 (by decide) (by omega) (by decide) (fun c27 => ?_) (fun c27 => ?_)
    · skip
      refine z_iconst dX12_isDigit_53 ?_
      refine z_zret dX12_isDigit_54 rfl (Or.inl rfl) ?_
      first | exact k1 ⟨by omega, by omega, by omega⟩ | exact k0 (fun q => by obtain ⟨q1, q2, q3⟩ := q; omega)
    · skip
      refine ab_aload_n (k := 0) dX12_isDigit_30 rfl rfl ?_
      refine z_getP (b := 201) dX12_isDigit_31 fX12_23 rfl rfl (ktx hx) ?_
      refine ab_aload_n (k := 0) dX12_isDigit_34 rfl rfl ?_
      refine z_getI dX12_isDigit_35 fX12_140 rfl (Or.inl rfl) ?_
      refine z_is (y := 0) hx.2.1 ?_
      refine ab_aload_n (k := 0) dX12_isDigit_38 rfl rfl ?_
      refine z_getI dX12_isDigit_39 fX12_134 rfl (Or.inl rfl) ?_
      refine z_is (y := (p : Int)) Sh.2.1 ?_
      refine z_iadd dX12_isDigit_42 ?_
      refine z_bald dX12_isDigit_43 (Or.inl rfl) (by omega) (by omega) ?_
      refine z_is (y := sby (T p)) (kby hx (by omega)) ?_
      have hT := ht.2 p (by omega)
      have hTs := sby_c hT
      refine z_bipush dX12_isDigit_44 (by decide) ?_
      refine z_icmp_gt (tgt := 53) dX12_isDigit_46 (by decide) (by omega) (by decide) (fun c46 => ?_) (fun c46 => ?_)
      · skip
        refine z_iconst dX12_isDigit_53 ?_
        refine z_zret dX12_isDigit_54 rfl (Or.inl rfl) ?_
        first | exact k1 ⟨by omega, by omega, by omega⟩ | exact k0 (fun q => by obtain ⟨q1, q2, q3⟩ := q; omega)
      · skip
        refine z_iconst dX12_isDigit_49 ?_
        refine ab_goto (tgt := 54) dX12_isDigit_50 (by decide) ?_
        refine z_zret dX12_isDigit_54 rfl (Or.inr rfl) ?_
        first | exact k1 ⟨by omega, by omega, by omega⟩ | exact k0 (fun q => by obtain ⟨q1, q2, q3⟩ := q; omega)
theorem c_khere {d : Nat} {h : ab_H} {Q : ab_Q} {T : Nat → Int} {z p : Nat}  (ht : tx T z) (Sh : MK T z h p) (hp : p < z) (K : Q (some (.int (iI (T p)))) h) : ab_X d mX12_here 0 (lv_args 0 [.ref 200]) [] h Q := by
  show ab_X d mX12_here 0 [(0, .ref 200)] [] h Q
  have hz := ht.1
  have hx := Sh.1
  have hpz := Sh.2.2.2
  refine ab_aload_n (k := 0) dX12_here_0 rfl rfl ?_
  refine z_getI dX12_here_1 fX12_134 rfl (Or.inl rfl) ?_
  refine z_is (y := (p : Int)) Sh.2.1 ?_
  refine ab_aload_n (k := 0) dX12_here_4 rfl rfl ?_
  refine z_getI dX12_here_5 fX12_137 rfl (Or.inl rfl) ?_
  refine z_is (y := (z : Int)) hx.1 ?_
  refine z_icmp_ge (tgt := 32) dX12_here_8 (by decide) (by omega) (by omega) (fun c8 => ?_) (fun c8 => ?_)
  · skip
    refine z_iconst dX12_here_32 ?_
    refine z_iret dX12_here_33 rfl ?_
    first | exact K | (exfalso; omega)
  · skip
    refine ab_aload_n (k := 0) dX12_here_11 rfl rfl ?_
    refine z_getP (b := 201) dX12_here_12 fX12_23 rfl rfl (ktx hx) ?_
    refine ab_aload_n (k := 0) dX12_here_15 rfl rfl ?_
    refine z_getI dX12_here_16 fX12_140 rfl (Or.inl rfl) ?_
    refine z_is (y := 0) hx.2.1 ?_
    refine ab_aload_n (k := 0) dX12_here_19 rfl rfl ?_
    refine z_getI dX12_here_20 fX12_134 rfl (Or.inl rfl) ?_
    refine z_is (y := (p : Int)) Sh.2.1 ?_
    refine z_iadd dX12_here_23 ?_
    refine z_bald dX12_here_24 (Or.inl rfl) (by omega) (by omega) ?_
    refine z_is (y := sby (T p)) (kby hx (by omega)) ?_
    have hT := ht.2 p (by omega)
    have hTs := sby_c hT
    refine z_sipush dX12_here_25 (by decide) ?_
    refine ab_iand dX12_here_28 ?_
    refine z_top ?_
    refine z_is (y := T p) (sby_and hT) ?_
    refine ab_goto (tgt := 33) dX12_here_29 (by decide) ?_
    refine z_iret dX12_here_33 rfl ?_
    first | exact K | (exfalso; omega)
theorem c_kitem206 {d : Nat} {h : ab_H} {Q : ab_Q} {T : Nat → Int} {z p m : Nat} {lo hi : Int}  (ht : tx T z) (hm : m < 3) (hlo : 0 ≤ lo ∧ lo ≤ 99) (hhi : 0 ≤ hi ∧ hi ≤ 99) (Sh : MK T z h p) (hp : p < z) (k1 : ∀ h' q v, kNm T z lo hi (p + 1) = (-1, q, v) → (p < q ∧ q ≤ z) → (lo ≤ v ∧ v ≤ hi) → (∀ a j, ¬ (a = 200 ∧ (j = 10 ∨ j = 11)) → ¬ (a = 206 ∧ j = m) → zv h' a j = zv h a j) → zv h' 206 m = v → MK T z h' q → Q none h') (k0 : ∀ h' w, (kNm T z lo hi (p + 1)).1 = w → ¬ w = -1 → eq2 h h' → zv h' 200 11 = w → Q none h') : ab_X (d + 1) mX12_readItem 0 (lv_args 0 [.ref 200, .ref 206, .int (iI (m : Int)), .int (iI lo), .int (iI hi)]) [] h Q := by
  show ab_X (d + 1) mX12_readItem 0 [(0, .ref 200), (1, .ref 206), (2, .int (iI (m : Int))), (3, .int (iI lo)), (4, .int (iI hi))] [] h Q
  have hz := ht.1
  have hx := Sh.1
  have hpz := Sh.2.2.2
  refine ab_aload_n (k := 0) dX12_readItem_0 rfl rfl ?_
  refine ab_dup dX12_readItem_1 rfl ?_
  refine z_getI dX12_readItem_2 fX12_134 rfl (Or.inl rfl) ?_
  refine z_is (y := ((p : Nat) : Int)) Sh.2.1 ?_
  refine z_iconst dX12_readItem_5 ?_
  refine z_iadd dX12_readItem_6 ?_
  refine z_putI dX12_readItem_7 fX12_134 rfl rfl ?_
  obtain ⟨n7, en7⟩ : ∃ zz : ab_H, zz = zp h 200 10 (((p : Nat) : Int) + 1) := ⟨_, rfl⟩
  rw [← en7]
  have Sn7 : MK T z n7 (p + 1) := by rw [en7]; exact MK_at Sh hz (by omega) (by omega)
  have sn7 : eq2 h n7 := by rw [en7]; exact eq2_z (by omega)
  refine ab_aload_n (k := 0) dX12_readItem_10 rfl rfl ?_
  refine ab_callV (As := []) (rest := []) dX12_readItem_11 lX12_153 rfl (Nat.le_of_ble_eq_true rfl) (Nat.le_of_ble_eq_true rfl) rfl ?_
  refine c_klook ht Sn7 (fun l11 sl11 Sl11 => ?_)
  have k11 := lk_ge T z (p + 1)
  have y11 := sg_b ht (p + 1)
  have q11 := lk_le (T := T) Sn7.2.2.2
  show ab_X (d + 1) mX12_readItem 14 [(0, .ref 200), (1, .ref 206), (2, .int (iI (m : Int))), (3, .int (iI lo)), (4, .int (iI hi))] [.int (iI (sg T z (p + 1)))] l11 _
  refine ab_istore (ls' := [(5, .int (iI (sg T z (p + 1)))), (0, .ref 200), (1, .ref 206), (2, .int (iI (m : Int))), (3, .int (iI lo)), (4, .int (iI hi))]) dX12_readItem_14 (by decide) rfl ?_
  refine ab_aload_n (k := 1) dX12_readItem_16 rfl rfl ?_
  refine ab_callV (As := []) (rest := []) dX12_readItem_17 lX12_183 rfl (Nat.le_of_ble_eq_true rfl) (Nat.le_of_ble_eq_true rfl) rfl ?_
  refine c_kDigit ht Sl11 (fun g17 => ?_) (fun g17 => ?_)
  · skip
    show ab_X (d + 1) mX12_readItem 20 [(5, .int (iI (sg T z (p + 1)))), (0, .ref 200), (1, .ref 206), (2, .int (iI (m : Int))), (3, .int (iI lo)), (4, .int (iI hi))] [.int (iI 1)] l11 _
    refine z_if_ne (tgt := 29) dX12_readItem_20 (by decide) (by decide) (fun _ => ?_) (fun c20 => absurd c20 (by decide))
    have dT := ht.2 (lk T z (p + 1)) (by omega)
    have eS : sg T z (p + 1) = T (lk T z (p + 1)) := sg_at (by omega)
    refine ab_iload (k := 0) dX12_readItem_29 rfl ?_
    refine z_bipush dX12_readItem_31 (by decide) ?_
    refine z_isub dX12_readItem_33 ?_
    refine ab_istore (ls' := [(6, .int (iI ((sg T z (p + 1)) - 48))), (5, .int (iI (sg T z (p + 1)))), (0, .ref 200), (1, .ref 206), (2, .int (iI (m : Int))), (3, .int (iI lo)), (4, .int (iI hi))]) dX12_readItem_34 (by decide) rfl ?_
    refine ab_aload_n (k := 2) dX12_readItem_36 rfl rfl ?_
    refine ab_dup dX12_readItem_37 rfl ?_
    refine z_getI dX12_readItem_38 fX12_134 rfl (Or.inl rfl) ?_
    refine z_is (y := (((lk T z (p + 1)) : Nat) : Int)) Sl11.2.1 ?_
    refine z_iconst dX12_readItem_41 ?_
    refine z_iadd dX12_readItem_42 ?_
    refine z_putI dX12_readItem_43 fX12_134 rfl rfl ?_
    obtain ⟨n43, en43⟩ : ∃ zz : ab_H, zz = zp l11 200 10 ((((lk T z (p + 1)) : Nat) : Int) + 1) := ⟨_, rfl⟩
    rw [← en43]
    have Sn43 : MK T z n43 ((lk T z (p + 1)) + 1) := by rw [en43]; exact MK_at Sl11 hz (by omega) (by omega)
    have sn43 : eq2 l11 n43 := by rw [en43]; exact eq2_z (by omega)
    refine ab_aload_n (k := 2) dX12_readItem_46 rfl rfl ?_
    refine ab_callV (As := []) (rest := []) dX12_readItem_47 lX12_183 rfl (Nat.le_of_ble_eq_true rfl) (Nat.le_of_ble_eq_true rfl) rfl ?_
    refine c_kDigit ht Sn43 (fun g47 => ?_) (fun g47 => ?_)
    · skip
      show ab_X (d + 1) mX12_readItem 50 [(6, .int (iI ((sg T z (p + 1)) - 48))), (5, .int (iI (sg T z (p + 1)))), (0, .ref 200), (1, .ref 206), (2, .int (iI (m : Int))), (3, .int (iI lo)), (4, .int (iI hi))] [.int (iI 1)] n43 _
      refine z_if_eq (tgt := 78) dX12_readItem_50 (by decide) (by decide) (fun c50 => absurd c50 (by decide)) (fun _ => ?_)
      refine z_bipush dX12_readItem_53 (by decide) ?_
      refine ab_iload (k := 0) dX12_readItem_55 rfl ?_
      refine z_imul dX12_readItem_57 ?_
      refine ab_aload_n (k := 2) dX12_readItem_58 rfl rfl ?_
      refine ab_callV (As := []) (rest := [.int (iI (10 * ((sg T z (p + 1)) - 48)))]) dX12_readItem_59 lX12_229 rfl (Nat.le_of_ble_eq_true rfl) (Nat.le_of_ble_eq_true rfl) rfl ?_
      refine c_khere ht Sn43 (by omega) ?_
      have hT2 := ht.2 (((lk T z (p + 1)) + 1)) (by omega)
      show ab_X (d + 1) mX12_readItem 62 [(6, .int (iI ((sg T z (p + 1)) - 48))), (5, .int (iI (sg T z (p + 1)))), (0, .ref 200), (1, .ref 206), (2, .int (iI (m : Int))), (3, .int (iI lo)), (4, .int (iI hi))] [.int (iI (T (((lk T z (p + 1)) + 1)))), .int (iI (10 * ((sg T z (p + 1)) - 48)))] n43 _
      refine z_iadd dX12_readItem_62 ?_
      refine z_bipush dX12_readItem_63 (by decide) ?_
      refine z_isub dX12_readItem_65 ?_
      refine ab_istore (ls' := [(6, .int (iI (((10 * ((sg T z (p + 1)) - 48)) + (T (((lk T z (p + 1)) + 1)))) - 48))), (5, .int (iI (sg T z (p + 1)))), (0, .ref 200), (1, .ref 206), (2, .int (iI (m : Int))), (3, .int (iI lo)), (4, .int (iI hi))]) dX12_readItem_66 (by decide) rfl ?_
      refine ab_aload_n (k := 2) dX12_readItem_68 rfl rfl ?_
      refine ab_dup dX12_readItem_69 rfl ?_
      refine z_getI dX12_readItem_70 fX12_134 rfl (Or.inl rfl) ?_
      refine z_is (y := ((((lk T z (p + 1)) + 1) : Nat) : Int)) Sn43.2.1 ?_
      refine z_iconst dX12_readItem_73 ?_
      refine z_iadd dX12_readItem_74 ?_
      refine z_putI dX12_readItem_75 fX12_134 rfl rfl ?_
      obtain ⟨n75, en75⟩ : ∃ zz : ab_H, zz = zp n43 200 10 (((((lk T z (p + 1)) + 1) : Nat) : Int) + 1) := ⟨_, rfl⟩
      rw [← en75]
      have Sn75 : MK T z n75 (((lk T z (p + 1)) + 1) + 1) := by rw [en75]; exact MK_at Sn43 hz (by omega) (by omega)
      have sn75 : eq2 n43 n75 := by rw [en75]; exact eq2_z (by omega)
      refine ab_aload_n (k := 2) dX12_readItem_78 rfl rfl ?_
      refine ab_callV (As := []) (rest := []) dX12_readItem_79 lX12_183 rfl (Nat.le_of_ble_eq_true rfl) (Nat.le_of_ble_eq_true rfl) rfl ?_
      refine c_kDigit ht Sn75 (fun g79 => ?_) (fun g79 => ?_)
      · skip
        show ab_X (d + 1) mX12_readItem 82 [(6, .int (iI (((10 * ((sg T z (p + 1)) - 48)) + (T (((lk T z (p + 1)) + 1)))) - 48))), (5, .int (iI (sg T z (p + 1)))), (0, .ref 200), (1, .ref 206), (2, .int (iI (m : Int))), (3, .int (iI lo)), (4, .int (iI hi))] [.int (iI 1)] n75 _
        refine z_if_eq (tgt := 91) dX12_readItem_82 (by decide) (by decide) (fun c82 => absurd c82 (by decide)) (fun _ => ?_)
        refine ab_aload_n (k := 2) dX12_readItem_85 rfl rfl ?_
        refine ab_callV (As := []) (rest := []) dX12_readItem_86 lX12_149 rfl (Nat.le_of_ble_eq_true rfl) (Nat.le_of_ble_eq_true rfl) rfl ?_
        refine c_kfails ht Sn75 (fun e86 se86 we86 => ?_)
        show ab_X (d + 1) mX12_readItem 89 [(6, .int (iI (((10 * ((sg T z (p + 1)) - 48)) + (T (((lk T z (p + 1)) + 1)))) - 48))), (5, .int (iI (sg T z (p + 1)))), (0, .ref 200), (1, .ref 206), (2, .int (iI (m : Int))), (3, .int (iI lo)), (4, .int (iI hi))] [.int (iI 0)] e86 _
        refine ab_pop dX12_readItem_89 rfl ?_
        refine z_vret dX12_readItem_90 rfl ?_
        have d1 : dg T z (lk T z (p + 1)) := by assumption
        first
        | (have d2 : dg T z (lk T z (p + 1) + 1) := by assumption
           have eN : nmb T z 2 (lk T z (p + 1)) 0 = (lk T z (p + 1) + 1 + 1, (0 * 10 + T (lk T z (p + 1)) - 48) * 10 + T (lk T z (p + 1) + 1) - 48) := by rw [nmb_t d1, nmb_t d2, nmb_0]
           have eN1 : (nmb T z 2 (lk T z (p + 1)) 0).1 = lk T z (p + 1) + 1 + 1 := by rw [eN]
           have eN2 : (nmb T z 2 (lk T z (p + 1)) 0).2 = (0 * 10 + T (lk T z (p + 1)) - 48) * 10 + T (lk T z (p + 1) + 1) - 48 := by rw [eN]
           exact k0 _ _ ((kNm_3 d1 (by rw [eN1]; assumption)).trans (by rw [eN1])) (by omega) ((((sn7.tr sl11).tr sn43).tr sn75).tr se86) we86)
        | exact absurd (by assumption : dg T z (lk T z (p + 1) + 1)) (by assumption)
      · skip
        show ab_X (d + 1) mX12_readItem 82 [(6, .int (iI (((10 * ((sg T z (p + 1)) - 48)) + (T (((lk T z (p + 1)) + 1)))) - 48))), (5, .int (iI (sg T z (p + 1)))), (0, .ref 200), (1, .ref 206), (2, .int (iI (m : Int))), (3, .int (iI lo)), (4, .int (iI hi))] [.int (iI 0)] n75 _
        refine z_if_eq (tgt := 91) dX12_readItem_82 (by decide) (by decide) (fun _ => ?_) (fun c82 => absurd c82 (by decide))
        refine ab_iload (k := 0) dX12_readItem_91 rfl ?_
        refine z_i2l dX12_readItem_93 (by omega) ?_
        refine ab_iload_n (k := 5) dX12_readItem_94 rfl rfl ?_
        refine z_i2l dX12_readItem_95 (by omega) ?_
        refine ab_iload (k := 6) dX12_readItem_96 rfl ?_
        refine z_i2l dX12_readItem_98 (by omega) ?_
        refine ab_callS (As := [.long (lL (((10 * ((sg T z (p + 1)) - 48)) + (T (((lk T z (p + 1)) + 1)))) - 48)), .long (lL lo), .long (lL hi)]) (rest := []) dX12_readItem_99 lX12_232 (Nat.le_of_ble_eq_true rfl) (Nat.le_of_ble_eq_true rfl) rfl ?_
        refine c_isIn (by omega) (by omega) (by omega) (fun gi => ?_) (fun gi => ?_)
        · skip
          show ab_X (d + 1) mX12_readItem 102 [(6, .int (iI (((10 * ((sg T z (p + 1)) - 48)) + (T (((lk T z (p + 1)) + 1)))) - 48))), (5, .int (iI (sg T z (p + 1)))), (0, .ref 200), (1, .ref 206), (2, .int (iI (m : Int))), (3, .int (iI lo)), (4, .int (iI hi))] [.int (iI 1)] n75 _
          refine z_if_ne (tgt := 121) dX12_readItem_102 (by decide) (by decide) (fun _ => ?_) (fun c102 => absurd c102 (by decide))
          refine ab_aload_n (k := 3) dX12_readItem_121 rfl rfl ?_
          refine ab_iload_n (k := 4) dX12_readItem_122 rfl rfl ?_
          refine ab_iload (k := 0) dX12_readItem_123 rfl ?_
          refine z_iast dX12_readItem_125 rfl (by omega) (by omega) ?_
          simp only [Int.toNat_natCast]
          refine z_vret dX12_readItem_126 rfl ?_
          have d1 : dg T z (lk T z (p + 1)) := by assumption
          have e9 : sg T z (p + 1) = T (lk T z (p + 1)) := sg_at d1.1
          have d2 : dg T z (lk T z (p + 1) + 1) := by assumption
          have eN : nmb T z 2 (lk T z (p + 1)) 0 = (lk T z (p + 1) + 1 + 1, (0 * 10 + T (lk T z (p + 1)) - 48) * 10 + T (lk T z (p + 1) + 1) - 48) := by rw [nmb_t d1, nmb_t d2, nmb_0]
          have eN1 : (nmb T z 2 (lk T z (p + 1)) 0).1 = lk T z (p + 1) + 1 + 1 := by rw [eN]
          have eN2 : (nmb T z 2 (lk T z (p + 1)) 0).2 = (0 * 10 + T (lk T z (p + 1)) - 48) * 10 + T (lk T z (p + 1) + 1) - 48 := by rw [eN]
          have eK := kNm_1 (lo := lo) (hi := hi) d1 (by rw [eN1]; assumption) (by rw [eN2]; omega)
          rw [eN1, eN2] at eK
          refine k1 _ _ _ eK (by omega) (by omega) (fun a j h1 h2 => (zv_zp_ne h2).trans ((((sn7.tr sl11).tr sn43).tr sn75).1 a j h1)) ?_ ⟨⟨?_, ?_, ?_, fun i hi => ?_⟩, ?_, ?_, ?_⟩
          · rw [zv_zp_s (by omega)]; omega
          · rw [zv_zp_a (by decide)]; exact Sn75.1.1
          · rw [zv_zp_a (by decide)]; exact Sn75.1.2.1
          · exact Sn75.1.2.2.1
          · rw [zv_zp_a (by decide)]; exact Sn75.1.2.2.2 i hi
          · rw [zv_zp_a (by decide)]; exact Sn75.2.1
          · rw [zv_zp_a (by decide)]; exact Sn75.2.2.1
          · exact Sn75.2.2.2
        · skip
          show ab_X (d + 1) mX12_readItem 102 [(6, .int (iI (((10 * ((sg T z (p + 1)) - 48)) + (T (((lk T z (p + 1)) + 1)))) - 48))), (5, .int (iI (sg T z (p + 1)))), (0, .ref 200), (1, .ref 206), (2, .int (iI (m : Int))), (3, .int (iI lo)), (4, .int (iI hi))] [.int (iI 0)] n75 _
          refine z_if_ne (tgt := 121) dX12_readItem_102 (by decide) (by decide) (fun c102 => absurd c102 (by decide)) (fun _ => ?_)
          refine ab_aload_n (k := 2) dX12_readItem_105 rfl rfl ?_
          refine ab_dup dX12_readItem_106 rfl ?_
          refine z_getI dX12_readItem_107 fX12_134 rfl (Or.inl rfl) ?_
          refine z_is (y := (((((lk T z (p + 1)) + 1) + 1) : Nat) : Int)) Sn75.2.1 ?_
          refine z_iconst dX12_readItem_110 ?_
          refine z_isub dX12_readItem_111 ?_
          refine z_putI dX12_readItem_112 fX12_134 rfl rfl ?_
          obtain ⟨n112, en112⟩ : ∃ zz : ab_H, zz = zp n75 200 10 ((((((lk T z (p + 1)) + 1) + 1) : Nat) : Int) - 1) := ⟨_, rfl⟩
          rw [← en112]
          have Sn112 : MK T z n112 ((((lk T z (p + 1)) + 1) + 1) - 1) := by rw [en112]; exact MK_at Sn75 hz (by omega) (by omega)
          have sn112 : eq2 n75 n112 := by rw [en112]; exact eq2_z (by omega)
          refine ab_aload_n (k := 2) dX12_readItem_115 rfl rfl ?_
          refine ab_callV (As := []) (rest := []) dX12_readItem_116 lX12_149 rfl (Nat.le_of_ble_eq_true rfl) (Nat.le_of_ble_eq_true rfl) rfl ?_
          refine c_kfails ht Sn112 (fun e116 se116 we116 => ?_)
          show ab_X (d + 1) mX12_readItem 119 [(6, .int (iI (((10 * ((sg T z (p + 1)) - 48)) + (T (((lk T z (p + 1)) + 1)))) - 48))), (5, .int (iI (sg T z (p + 1)))), (0, .ref 200), (1, .ref 206), (2, .int (iI (m : Int))), (3, .int (iI lo)), (4, .int (iI hi))] [.int (iI 0)] e116 _
          refine ab_pop dX12_readItem_119 rfl ?_
          refine z_vret dX12_readItem_120 rfl ?_
          have d1 : dg T z (lk T z (p + 1)) := by assumption
          have e9 : sg T z (p + 1) = T (lk T z (p + 1)) := sg_at d1.1
          first
          | (have d2 : dg T z (lk T z (p + 1) + 1) := by assumption
             have eN : nmb T z 2 (lk T z (p + 1)) 0 = (lk T z (p + 1) + 1 + 1, (0 * 10 + T (lk T z (p + 1)) - 48) * 10 + T (lk T z (p + 1) + 1) - 48) := by rw [nmb_t d1, nmb_t d2, nmb_0]
             have eN1 : (nmb T z 2 (lk T z (p + 1)) 0).1 = lk T z (p + 1) + 1 + 1 := by rw [eN]
             have eN2 : (nmb T z 2 (lk T z (p + 1)) 0).2 = (0 * 10 + T (lk T z (p + 1)) - 48) * 10 + T (lk T z (p + 1) + 1) - 48 := by rw [eN]
             refine k0 _ _ ((kNm_2 d1 (by rw [eN1]; assumption) (by rw [eN2]; omega)).trans (by rw [eN1])) (by omega) (((((sn7.tr sl11).tr sn43).tr sn75).tr sn112).tr se116) ?_
             rw [we116]; omega)
          | (have d2 : ¬ dg T z (lk T z (p + 1) + 1) := by assumption
             have eN : nmb T z 2 (lk T z (p + 1)) 0 = (lk T z (p + 1) + 1, 0 * 10 + T (lk T z (p + 1)) - 48) := by rw [nmb_t d1, nmb_f d2]
             have eN1 : (nmb T z 2 (lk T z (p + 1)) 0).1 = lk T z (p + 1) + 1 := by rw [eN]
             have eN2 : (nmb T z 2 (lk T z (p + 1)) 0).2 = 0 * 10 + T (lk T z (p + 1)) - 48 := by rw [eN]
             refine k0 _ _ ((kNm_2 d1 (by rw [eN1]; assumption) (by rw [eN2]; omega)).trans (by rw [eN1])) (by omega) ((((sn7.tr sl11).tr sn43).tr sn112).tr se116) ?_
             rw [we116]; omega)
    · skip
      show ab_X (d + 1) mX12_readItem 50 [(6, .int (iI ((sg T z (p + 1)) - 48))), (5, .int (iI (sg T z (p + 1)))), (0, .ref 200), (1, .ref 206), (2, .int (iI (m : Int))), (3, .int (iI lo)), (4, .int (iI hi))] [.int (iI 0)] n43 _
      refine z_if_eq (tgt := 78) dX12_readItem_50 (by decide) (by decide) (fun _ => ?_) (fun c50 => absurd c50 (by decide))
      refine ab_aload_n (k := 2) dX12_readItem_78 rfl rfl ?_
      refine ab_callV (As := []) (rest := []) dX12_readItem_79 lX12_183 rfl (Nat.le_of_ble_eq_true rfl) (Nat.le_of_ble_eq_true rfl) rfl ?_
      refine c_kDigit ht Sn43 (fun g79 => ?_) (fun g79 => ?_)
      · skip
        show ab_X (d + 1) mX12_readItem 82 [(6, .int (iI ((sg T z (p + 1)) - 48))), (5, .int (iI (sg T z (p + 1)))), (0, .ref 200), (1, .ref 206), (2, .int (iI (m : Int))), (3, .int (iI lo)), (4, .int (iI hi))] [.int (iI 1)] n43 _
        refine z_if_eq (tgt := 91) dX12_readItem_82 (by decide) (by decide) (fun c82 => absurd c82 (by decide)) (fun _ => ?_)
        refine ab_aload_n (k := 2) dX12_readItem_85 rfl rfl ?_
        refine ab_callV (As := []) (rest := []) dX12_readItem_86 lX12_149 rfl (Nat.le_of_ble_eq_true rfl) (Nat.le_of_ble_eq_true rfl) rfl ?_
        refine c_kfails ht Sn43 (fun e86 se86 we86 => ?_)
        show ab_X (d + 1) mX12_readItem 89 [(6, .int (iI ((sg T z (p + 1)) - 48))), (5, .int (iI (sg T z (p + 1)))), (0, .ref 200), (1, .ref 206), (2, .int (iI (m : Int))), (3, .int (iI lo)), (4, .int (iI hi))] [.int (iI 0)] e86 _
        refine ab_pop dX12_readItem_89 rfl ?_
        refine z_vret dX12_readItem_90 rfl ?_
        have d1 : dg T z (lk T z (p + 1)) := by assumption
        first
        | (have d2 : dg T z (lk T z (p + 1) + 1) := by assumption
           have eN : nmb T z 2 (lk T z (p + 1)) 0 = (lk T z (p + 1) + 1 + 1, (0 * 10 + T (lk T z (p + 1)) - 48) * 10 + T (lk T z (p + 1) + 1) - 48) := by rw [nmb_t d1, nmb_t d2, nmb_0]
           have eN1 : (nmb T z 2 (lk T z (p + 1)) 0).1 = lk T z (p + 1) + 1 + 1 := by rw [eN]
           have eN2 : (nmb T z 2 (lk T z (p + 1)) 0).2 = (0 * 10 + T (lk T z (p + 1)) - 48) * 10 + T (lk T z (p + 1) + 1) - 48 := by rw [eN]
           exact k0 _ _ ((kNm_3 d1 (by rw [eN1]; assumption)).trans (by rw [eN1])) (by omega) ((((sn7.tr sl11).tr sn43).tr sn75).tr se86) we86)
        | exact absurd (by assumption : dg T z (lk T z (p + 1) + 1)) (by assumption)
      · skip
        show ab_X (d + 1) mX12_readItem 82 [(6, .int (iI ((sg T z (p + 1)) - 48))), (5, .int (iI (sg T z (p + 1)))), (0, .ref 200), (1, .ref 206), (2, .int (iI (m : Int))), (3, .int (iI lo)), (4, .int (iI hi))] [.int (iI 0)] n43 _
        refine z_if_eq (tgt := 91) dX12_readItem_82 (by decide) (by decide) (fun _ => ?_) (fun c82 => absurd c82 (by decide))
        refine ab_iload (k := 0) dX12_readItem_91 rfl ?_
        refine z_i2l dX12_readItem_93 (by omega) ?_
        refine ab_iload_n (k := 5) dX12_readItem_94 rfl rfl ?_
        refine z_i2l dX12_readItem_95 (by omega) ?_
        refine ab_iload (k := 6) dX12_readItem_96 rfl ?_
        refine z_i2l dX12_readItem_98 (by omega) ?_
        refine ab_callS (As := [.long (lL ((sg T z (p + 1)) - 48)), .long (lL lo), .long (lL hi)]) (rest := []) dX12_readItem_99 lX12_232 (Nat.le_of_ble_eq_true rfl) (Nat.le_of_ble_eq_true rfl) rfl ?_
        refine c_isIn (by omega) (by omega) (by omega) (fun gi => ?_) (fun gi => ?_)
        · skip
          show ab_X (d + 1) mX12_readItem 102 [(6, .int (iI ((sg T z (p + 1)) - 48))), (5, .int (iI (sg T z (p + 1)))), (0, .ref 200), (1, .ref 206), (2, .int (iI (m : Int))), (3, .int (iI lo)), (4, .int (iI hi))] [.int (iI 1)] n43 _
          refine z_if_ne (tgt := 121) dX12_readItem_102 (by decide) (by decide) (fun _ => ?_) (fun c102 => absurd c102 (by decide))
          refine ab_aload_n (k := 3) dX12_readItem_121 rfl rfl ?_
          refine ab_iload_n (k := 4) dX12_readItem_122 rfl rfl ?_
          refine ab_iload (k := 0) dX12_readItem_123 rfl ?_
          refine z_iast dX12_readItem_125 rfl (by omega) (by omega) ?_
          simp only [Int.toNat_natCast]
          refine z_vret dX12_readItem_126 rfl ?_
          have d1 : dg T z (lk T z (p + 1)) := by assumption
          have e9 : sg T z (p + 1) = T (lk T z (p + 1)) := sg_at d1.1
          first
          | exact absurd (by assumption : dg T z (lk T z (p + 1) + 1)) (by assumption)
          | (have d2 : ¬ dg T z (lk T z (p + 1) + 1) := by assumption
             have eN : nmb T z 2 (lk T z (p + 1)) 0 = (lk T z (p + 1) + 1, 0 * 10 + T (lk T z (p + 1)) - 48) := by rw [nmb_t d1, nmb_f d2]
             have eN1 : (nmb T z 2 (lk T z (p + 1)) 0).1 = lk T z (p + 1) + 1 := by rw [eN]
             have eN2 : (nmb T z 2 (lk T z (p + 1)) 0).2 = 0 * 10 + T (lk T z (p + 1)) - 48 := by rw [eN]
             have eK := kNm_1 (lo := lo) (hi := hi) d1 (by rw [eN1]; assumption) (by rw [eN2]; omega)
             rw [eN1, eN2] at eK
             refine k1 _ _ _ eK (by omega) (by omega) (fun a j h1 h2 => (zv_zp_ne h2).trans (((sn7.tr sl11).tr sn43).1 a j h1)) ?_ ⟨⟨?_, ?_, ?_, fun i hi => ?_⟩, ?_, ?_, ?_⟩
             · rw [zv_zp_s (by omega)]; omega
             · rw [zv_zp_a (by decide)]; exact Sn43.1.1
             · rw [zv_zp_a (by decide)]; exact Sn43.1.2.1
             · exact Sn43.1.2.2.1
             · rw [zv_zp_a (by decide)]; exact Sn43.1.2.2.2 i hi
             · rw [zv_zp_a (by decide)]; exact Sn43.2.1
             · rw [zv_zp_a (by decide)]; exact Sn43.2.2.1
             · exact Sn43.2.2.2)
        · skip
          show ab_X (d + 1) mX12_readItem 102 [(6, .int (iI ((sg T z (p + 1)) - 48))), (5, .int (iI (sg T z (p + 1)))), (0, .ref 200), (1, .ref 206), (2, .int (iI (m : Int))), (3, .int (iI lo)), (4, .int (iI hi))] [.int (iI 0)] n43 _
          refine z_if_ne (tgt := 121) dX12_readItem_102 (by decide) (by decide) (fun c102 => absurd c102 (by decide)) (fun _ => ?_)
          refine ab_aload_n (k := 2) dX12_readItem_105 rfl rfl ?_
          refine ab_dup dX12_readItem_106 rfl ?_
          refine z_getI dX12_readItem_107 fX12_134 rfl (Or.inl rfl) ?_
          refine z_is (y := ((((lk T z (p + 1)) + 1) : Nat) : Int)) Sn43.2.1 ?_
          refine z_iconst dX12_readItem_110 ?_
          refine z_isub dX12_readItem_111 ?_
          refine z_putI dX12_readItem_112 fX12_134 rfl rfl ?_
          obtain ⟨n112, en112⟩ : ∃ zz : ab_H, zz = zp n43 200 10 (((((lk T z (p + 1)) + 1) : Nat) : Int) - 1) := ⟨_, rfl⟩
          rw [← en112]
          have Sn112 : MK T z n112 (((lk T z (p + 1)) + 1) - 1) := by rw [en112]; exact MK_at Sn43 hz (by omega) (by omega)
          have sn112 : eq2 n43 n112 := by rw [en112]; exact eq2_z (by omega)
          refine ab_aload_n (k := 2) dX12_readItem_115 rfl rfl ?_
          refine ab_callV (As := []) (rest := []) dX12_readItem_116 lX12_149 rfl (Nat.le_of_ble_eq_true rfl) (Nat.le_of_ble_eq_true rfl) rfl ?_
          refine c_kfails ht Sn112 (fun e116 se116 we116 => ?_)
          show ab_X (d + 1) mX12_readItem 119 [(6, .int (iI ((sg T z (p + 1)) - 48))), (5, .int (iI (sg T z (p + 1)))), (0, .ref 200), (1, .ref 206), (2, .int (iI (m : Int))), (3, .int (iI lo)), (4, .int (iI hi))] [.int (iI 0)] e116 _
          refine ab_pop dX12_readItem_119 rfl ?_
          refine z_vret dX12_readItem_120 rfl ?_
          have d1 : dg T z (lk T z (p + 1)) := by assumption
          have e9 : sg T z (p + 1) = T (lk T z (p + 1)) := sg_at d1.1
          first
          | (have d2 : dg T z (lk T z (p + 1) + 1) := by assumption
             have eN : nmb T z 2 (lk T z (p + 1)) 0 = (lk T z (p + 1) + 1 + 1, (0 * 10 + T (lk T z (p + 1)) - 48) * 10 + T (lk T z (p + 1) + 1) - 48) := by rw [nmb_t d1, nmb_t d2, nmb_0]
             have eN1 : (nmb T z 2 (lk T z (p + 1)) 0).1 = lk T z (p + 1) + 1 + 1 := by rw [eN]
             have eN2 : (nmb T z 2 (lk T z (p + 1)) 0).2 = (0 * 10 + T (lk T z (p + 1)) - 48) * 10 + T (lk T z (p + 1) + 1) - 48 := by rw [eN]
             refine k0 _ _ ((kNm_2 d1 (by rw [eN1]; assumption) (by rw [eN2]; omega)).trans (by rw [eN1])) (by omega) (((((sn7.tr sl11).tr sn43).tr sn75).tr sn112).tr se116) ?_
             rw [we116]; omega)
          | (have d2 : ¬ dg T z (lk T z (p + 1) + 1) := by assumption
             have eN : nmb T z 2 (lk T z (p + 1)) 0 = (lk T z (p + 1) + 1, 0 * 10 + T (lk T z (p + 1)) - 48) := by rw [nmb_t d1, nmb_f d2]
             have eN1 : (nmb T z 2 (lk T z (p + 1)) 0).1 = lk T z (p + 1) + 1 := by rw [eN]
             have eN2 : (nmb T z 2 (lk T z (p + 1)) 0).2 = 0 * 10 + T (lk T z (p + 1)) - 48 := by rw [eN]
             refine k0 _ _ ((kNm_2 d1 (by rw [eN1]; assumption) (by rw [eN2]; omega)).trans (by rw [eN1])) (by omega) ((((sn7.tr sl11).tr sn43).tr sn112).tr se116) ?_
             rw [we116]; omega)
  · skip
    show ab_X (d + 1) mX12_readItem 20 [(5, .int (iI (sg T z (p + 1)))), (0, .ref 200), (1, .ref 206), (2, .int (iI (m : Int))), (3, .int (iI lo)), (4, .int (iI hi))] [.int (iI 0)] l11 _
    refine z_if_ne (tgt := 29) dX12_readItem_20 (by decide) (by decide) (fun c20 => absurd c20 (by decide)) (fun _ => ?_)
    refine ab_aload_n (k := 1) dX12_readItem_23 rfl rfl ?_
    refine ab_callV (As := []) (rest := []) dX12_readItem_24 lX12_149 rfl (Nat.le_of_ble_eq_true rfl) (Nat.le_of_ble_eq_true rfl) rfl ?_
    refine c_kfails ht Sl11 (fun e24 se24 we24 => ?_)
    show ab_X (d + 1) mX12_readItem 27 [(5, .int (iI (sg T z (p + 1)))), (0, .ref 200), (1, .ref 206), (2, .int (iI (m : Int))), (3, .int (iI lo)), (4, .int (iI hi))] [.int (iI 0)] e24 _
    refine ab_pop dX12_readItem_27 rfl ?_
    refine z_vret dX12_readItem_28 rfl ?_
    have d1 : ¬ dg T z (lk T z (p + 1)) := by assumption
    exact k0 _ _ (kNm_4 d1) (by omega) ((sn7.tr sl11).tr se24) we24
theorem c_kitem208 {d : Nat} {h : ab_H} {Q : ab_Q} {T : Nat → Int} {z p m : Nat} {lo hi : Int}  (ht : tx T z) (hm : m < 8) (hlo : 0 ≤ lo ∧ lo ≤ 99) (hhi : 0 ≤ hi ∧ hi ≤ 99) (Sh : MK T z h p) (hp : p < z) (k1 : ∀ h' q v, kNm T z lo hi (p + 1) = (-1, q, v) → (p < q ∧ q ≤ z) → (lo ≤ v ∧ v ≤ hi) → (∀ a j, ¬ (a = 200 ∧ (j = 10 ∨ j = 11)) → ¬ (a = 208 ∧ j = m) → zv h' a j = zv h a j) → zv h' 208 m = v → MK T z h' q → Q none h') (k0 : ∀ h' w, (kNm T z lo hi (p + 1)).1 = w → ¬ w = -1 → eq2 h h' → zv h' 200 11 = w → Q none h') : ab_X (d + 1) mX12_readItem 0 (lv_args 0 [.ref 200, .ref 208, .int (iI (m : Int)), .int (iI lo), .int (iI hi)]) [] h Q := by
  show ab_X (d + 1) mX12_readItem 0 [(0, .ref 200), (1, .ref 208), (2, .int (iI (m : Int))), (3, .int (iI lo)), (4, .int (iI hi))] [] h Q
  have hz := ht.1
  have hx := Sh.1
  have hpz := Sh.2.2.2
  refine ab_aload_n (k := 0) dX12_readItem_0 rfl rfl ?_
  refine ab_dup dX12_readItem_1 rfl ?_
  refine z_getI dX12_readItem_2 fX12_134 rfl (Or.inl rfl) ?_
  refine z_is (y := ((p : Nat) : Int)) Sh.2.1 ?_
  refine z_iconst dX12_readItem_5 ?_
  refine z_iadd dX12_readItem_6 ?_
  refine z_putI dX12_readItem_7 fX12_134 rfl rfl ?_
  obtain ⟨n7, en7⟩ : ∃ zz : ab_H, zz = zp h 200 10 (((p : Nat) : Int) + 1) := ⟨_, rfl⟩
  rw [← en7]
  have Sn7 : MK T z n7 (p + 1) := by rw [en7]; exact MK_at Sh hz (by omega) (by omega)
  have sn7 : eq2 h n7 := by rw [en7]; exact eq2_z (by omega)
  refine ab_aload_n (k := 0) dX12_readItem_10 rfl rfl ?_
  refine ab_callV (As := []) (rest := []) dX12_readItem_11 lX12_153 rfl (Nat.le_of_ble_eq_true rfl) (Nat.le_of_ble_eq_true rfl) rfl ?_
  refine c_klook ht Sn7 (fun l11 sl11 Sl11 => ?_)
  have k11 := lk_ge T z (p + 1)
  have y11 := sg_b ht (p + 1)
  have q11 := lk_le (T := T) Sn7.2.2.2
  show ab_X (d + 1) mX12_readItem 14 [(0, .ref 200), (1, .ref 208), (2, .int (iI (m : Int))), (3, .int (iI lo)), (4, .int (iI hi))] [.int (iI (sg T z (p + 1)))] l11 _
  refine ab_istore (ls' := [(5, .int (iI (sg T z (p + 1)))), (0, .ref 200), (1, .ref 208), (2, .int (iI (m : Int))), (3, .int (iI lo)), (4, .int (iI hi))]) dX12_readItem_14 (by decide) rfl ?_
  refine ab_aload_n (k := 1) dX12_readItem_16 rfl rfl ?_
  refine ab_callV (As := []) (rest := []) dX12_readItem_17 lX12_183 rfl (Nat.le_of_ble_eq_true rfl) (Nat.le_of_ble_eq_true rfl) rfl ?_
  refine c_kDigit ht Sl11 (fun g17 => ?_) (fun g17 => ?_)
  · skip
    show ab_X (d + 1) mX12_readItem 20 [(5, .int (iI (sg T z (p + 1)))), (0, .ref 200), (1, .ref 208), (2, .int (iI (m : Int))), (3, .int (iI lo)), (4, .int (iI hi))] [.int (iI 1)] l11 _
    refine z_if_ne (tgt := 29) dX12_readItem_20 (by decide) (by decide) (fun _ => ?_) (fun c20 => absurd c20 (by decide))
    have dT := ht.2 (lk T z (p + 1)) (by omega)
    have eS : sg T z (p + 1) = T (lk T z (p + 1)) := sg_at (by omega)
    refine ab_iload (k := 0) dX12_readItem_29 rfl ?_
    refine z_bipush dX12_readItem_31 (by decide) ?_
    refine z_isub dX12_readItem_33 ?_
    refine ab_istore (ls' := [(6, .int (iI ((sg T z (p + 1)) - 48))), (5, .int (iI (sg T z (p + 1)))), (0, .ref 200), (1, .ref 208), (2, .int (iI (m : Int))), (3, .int (iI lo)), (4, .int (iI hi))]) dX12_readItem_34 (by decide) rfl ?_
    refine ab_aload_n (k := 2) dX12_readItem_36 rfl rfl ?_
    refine ab_dup dX12_readItem_37 rfl ?_
    refine z_getI dX12_readItem_38 fX12_134 rfl (Or.inl rfl) ?_
    refine z_is (y := (((lk T z (p + 1)) : Nat) : Int)) Sl11.2.1 ?_
    refine z_iconst dX12_readItem_41 ?_
    refine z_iadd dX12_readItem_42 ?_
    refine z_putI dX12_readItem_43 fX12_134 rfl rfl ?_
    obtain ⟨n43, en43⟩ : ∃ zz : ab_H, zz = zp l11 200 10 ((((lk T z (p + 1)) : Nat) : Int) + 1) := ⟨_, rfl⟩
    rw [← en43]
    have Sn43 : MK T z n43 ((lk T z (p + 1)) + 1) := by rw [en43]; exact MK_at Sl11 hz (by omega) (by omega)
    have sn43 : eq2 l11 n43 := by rw [en43]; exact eq2_z (by omega)
    refine ab_aload_n (k := 2) dX12_readItem_46 rfl rfl ?_
    refine ab_callV (As := []) (rest := []) dX12_readItem_47 lX12_183 rfl (Nat.le_of_ble_eq_true rfl) (Nat.le_of_ble_eq_true rfl) rfl ?_
    refine c_kDigit ht Sn43 (fun g47 => ?_) (fun g47 => ?_)
    · skip
      show ab_X (d + 1) mX12_readItem 50 [(6, .int (iI ((sg T z (p + 1)) - 48))), (5, .int (iI (sg T z (p + 1)))), (0, .ref 200), (1, .ref 208), (2, .int (iI (m : Int))), (3, .int (iI lo)), (4, .int (iI hi))] [.int (iI 1)] n43 _
      refine z_if_eq (tgt := 78) dX12_readItem_50 (by decide) (by decide) (fun c50 => absurd c50 (by decide)) (fun _ => ?_)
      refine z_bipush dX12_readItem_53 (by decide) ?_
      refine ab_iload (k := 0) dX12_readItem_55 rfl ?_
      refine z_imul dX12_readItem_57 ?_
      refine ab_aload_n (k := 2) dX12_readItem_58 rfl rfl ?_
      refine ab_callV (As := []) (rest := [.int (iI (10 * ((sg T z (p + 1)) - 48)))]) dX12_readItem_59 lX12_229 rfl (Nat.le_of_ble_eq_true rfl) (Nat.le_of_ble_eq_true rfl) rfl ?_
      refine c_khere ht Sn43 (by omega) ?_
      have hT2 := ht.2 (((lk T z (p + 1)) + 1)) (by omega)
      show ab_X (d + 1) mX12_readItem 62 [(6, .int (iI ((sg T z (p + 1)) - 48))), (5, .int (iI (sg T z (p + 1)))), (0, .ref 200), (1, .ref 208), (2, .int (iI (m : Int))), (3, .int (iI lo)), (4, .int (iI hi))] [.int (iI (T (((lk T z (p + 1)) + 1)))), .int (iI (10 * ((sg T z (p + 1)) - 48)))] n43 _
      refine z_iadd dX12_readItem_62 ?_
      refine z_bipush dX12_readItem_63 (by decide) ?_
      refine z_isub dX12_readItem_65 ?_
      refine ab_istore (ls' := [(6, .int (iI (((10 * ((sg T z (p + 1)) - 48)) + (T (((lk T z (p + 1)) + 1)))) - 48))), (5, .int (iI (sg T z (p + 1)))), (0, .ref 200), (1, .ref 208), (2, .int (iI (m : Int))), (3, .int (iI lo)), (4, .int (iI hi))]) dX12_readItem_66 (by decide) rfl ?_
      refine ab_aload_n (k := 2) dX12_readItem_68 rfl rfl ?_
      refine ab_dup dX12_readItem_69 rfl ?_
      refine z_getI dX12_readItem_70 fX12_134 rfl (Or.inl rfl) ?_
      refine z_is (y := ((((lk T z (p + 1)) + 1) : Nat) : Int)) Sn43.2.1 ?_
      refine z_iconst dX12_readItem_73 ?_
      refine z_iadd dX12_readItem_74 ?_
      refine z_putI dX12_readItem_75 fX12_134 rfl rfl ?_
      obtain ⟨n75, en75⟩ : ∃ zz : ab_H, zz = zp n43 200 10 (((((lk T z (p + 1)) + 1) : Nat) : Int) + 1) := ⟨_, rfl⟩
      rw [← en75]
      have Sn75 : MK T z n75 (((lk T z (p + 1)) + 1) + 1) := by rw [en75]; exact MK_at Sn43 hz (by omega) (by omega)
      have sn75 : eq2 n43 n75 := by rw [en75]; exact eq2_z (by omega)
      refine ab_aload_n (k := 2) dX12_readItem_78 rfl rfl ?_
      refine ab_callV (As := []) (rest := []) dX12_readItem_79 lX12_183 rfl (Nat.le_of_ble_eq_true rfl) (Nat.le_of_ble_eq_true rfl) rfl ?_
      refine c_kDigit ht Sn75 (fun g79 => ?_) (fun g79 => ?_)
      · skip
        show ab_X (d + 1) mX12_readItem 82 [(6, .int (iI (((10 * ((sg T z (p + 1)) - 48)) + (T (((lk T z (p + 1)) + 1)))) - 48))), (5, .int (iI (sg T z (p + 1)))), (0, .ref 200), (1, .ref 208), (2, .int (iI (m : Int))), (3, .int (iI lo)), (4, .int (iI hi))] [.int (iI 1)] n75 _
        refine z_if_eq (tgt := 91) dX12_readItem_82 (by decide) (by decide) (fun c82 => absurd c82 (by decide)) (fun _ => ?_)
        refine ab_aload_n (k := 2) dX12_readItem_85 rfl rfl ?_
        refine ab_callV (As := []) (rest := []) dX12_readItem_86 lX12_149 rfl (Nat.le_of_ble_eq_true rfl) (Nat.le_of_ble_eq_true rfl) rfl ?_
        refine c_kfails ht Sn75 (fun e86 se86 we86 => ?_)
        show ab_X (d + 1) mX12_readItem 89 [(6, .int (iI (((10 * ((sg T z (p + 1)) - 48)) + (T (((lk T z (p + 1)) + 1)))) - 48))), (5, .int (iI (sg T z (p + 1)))), (0, .ref 200), (1, .ref 208), (2, .int (iI (m : Int))), (3, .int (iI lo)), (4, .int (iI hi))] [.int (iI 0)] e86 _
        refine ab_pop dX12_readItem_89 rfl ?_
        refine z_vret dX12_readItem_90 rfl ?_
        have d1 : dg T z (lk T z (p + 1)) := by assumption
        first
        | (have d2 : dg T z (lk T z (p + 1) + 1) := by assumption
           have eN : nmb T z 2 (lk T z (p + 1)) 0 = (lk T z (p + 1) + 1 + 1, (0 * 10 + T (lk T z (p + 1)) - 48) * 10 + T (lk T z (p + 1) + 1) - 48) := by rw [nmb_t d1, nmb_t d2, nmb_0]
           have eN1 : (nmb T z 2 (lk T z (p + 1)) 0).1 = lk T z (p + 1) + 1 + 1 := by rw [eN]
           have eN2 : (nmb T z 2 (lk T z (p + 1)) 0).2 = (0 * 10 + T (lk T z (p + 1)) - 48) * 10 + T (lk T z (p + 1) + 1) - 48 := by rw [eN]
           exact k0 _ _ ((kNm_3 d1 (by rw [eN1]; assumption)).trans (by rw [eN1])) (by omega) ((((sn7.tr sl11).tr sn43).tr sn75).tr se86) we86)
        | exact absurd (by assumption : dg T z (lk T z (p + 1) + 1)) (by assumption)
      · skip
        show ab_X (d + 1) mX12_readItem 82 [(6, .int (iI (((10 * ((sg T z (p + 1)) - 48)) + (T (((lk T z (p + 1)) + 1)))) - 48))), (5, .int (iI (sg T z (p + 1)))), (0, .ref 200), (1, .ref 208), (2, .int (iI (m : Int))), (3, .int (iI lo)), (4, .int (iI hi))] [.int (iI 0)] n75 _
        refine z_if_eq (tgt := 91) dX12_readItem_82 (by decide) (by decide) (fun _ => ?_) (fun c82 => absurd c82 (by decide))
        refine ab_iload (k := 0) dX12_readItem_91 rfl ?_
        refine z_i2l dX12_readItem_93 (by omega) ?_
        refine ab_iload_n (k := 5) dX12_readItem_94 rfl rfl ?_
        refine z_i2l dX12_readItem_95 (by omega) ?_
        refine ab_iload (k := 6) dX12_readItem_96 rfl ?_
        refine z_i2l dX12_readItem_98 (by omega) ?_
        refine ab_callS (As := [.long (lL (((10 * ((sg T z (p + 1)) - 48)) + (T (((lk T z (p + 1)) + 1)))) - 48)), .long (lL lo), .long (lL hi)]) (rest := []) dX12_readItem_99 lX12_232 (Nat.le_of_ble_eq_true rfl) (Nat.le_of_ble_eq_true rfl) rfl ?_
        refine c_isIn (by omega) (by omega) (by omega) (fun gi => ?_) (fun gi => ?_)
        · skip
          show ab_X (d + 1) mX12_readItem 102 [(6, .int (iI (((10 * ((sg T z (p + 1)) - 48)) + (T (((lk T z (p + 1)) + 1)))) - 48))), (5, .int (iI (sg T z (p + 1)))), (0, .ref 200), (1, .ref 208), (2, .int (iI (m : Int))), (3, .int (iI lo)), (4, .int (iI hi))] [.int (iI 1)] n75 _
          refine z_if_ne (tgt := 121) dX12_readItem_102 (by decide) (by decide) (fun _ => ?_) (fun c102 => absurd c102 (by decide))
          refine ab_aload_n (k := 3) dX12_readItem_121 rfl rfl ?_
          refine ab_iload_n (k := 4) dX12_readItem_122 rfl rfl ?_
          refine ab_iload (k := 0) dX12_readItem_123 rfl ?_
          refine z_iast dX12_readItem_125 rfl (by omega) (by omega) ?_
          simp only [Int.toNat_natCast]
          refine z_vret dX12_readItem_126 rfl ?_
          have d1 : dg T z (lk T z (p + 1)) := by assumption
          have e9 : sg T z (p + 1) = T (lk T z (p + 1)) := sg_at d1.1
          have d2 : dg T z (lk T z (p + 1) + 1) := by assumption
          have eN : nmb T z 2 (lk T z (p + 1)) 0 = (lk T z (p + 1) + 1 + 1, (0 * 10 + T (lk T z (p + 1)) - 48) * 10 + T (lk T z (p + 1) + 1) - 48) := by rw [nmb_t d1, nmb_t d2, nmb_0]
          have eN1 : (nmb T z 2 (lk T z (p + 1)) 0).1 = lk T z (p + 1) + 1 + 1 := by rw [eN]
          have eN2 : (nmb T z 2 (lk T z (p + 1)) 0).2 = (0 * 10 + T (lk T z (p + 1)) - 48) * 10 + T (lk T z (p + 1) + 1) - 48 := by rw [eN]
          have eK := kNm_1 (lo := lo) (hi := hi) d1 (by rw [eN1]; assumption) (by rw [eN2]; omega)
          rw [eN1, eN2] at eK
          refine k1 _ _ _ eK (by omega) (by omega) (fun a j h1 h2 => (zv_zp_ne h2).trans ((((sn7.tr sl11).tr sn43).tr sn75).1 a j h1)) ?_ ⟨⟨?_, ?_, ?_, fun i hi => ?_⟩, ?_, ?_, ?_⟩
          · rw [zv_zp_s (by omega)]; omega
          · rw [zv_zp_a (by decide)]; exact Sn75.1.1
          · rw [zv_zp_a (by decide)]; exact Sn75.1.2.1
          · exact Sn75.1.2.2.1
          · rw [zv_zp_a (by decide)]; exact Sn75.1.2.2.2 i hi
          · rw [zv_zp_a (by decide)]; exact Sn75.2.1
          · rw [zv_zp_a (by decide)]; exact Sn75.2.2.1
          · exact Sn75.2.2.2
        · skip
          show ab_X (d + 1) mX12_readItem 102 [(6, .int (iI (((10 * ((sg T z (p + 1)) - 48)) + (T (((lk T z (p + 1)) + 1)))) - 48))), (5, .int (iI (sg T z (p + 1)))), (0, .ref 200), (1, .ref 208), (2, .int (iI (m : Int))), (3, .int (iI lo)), (4, .int (iI hi))] [.int (iI 0)] n75 _
          refine z_if_ne (tgt := 121) dX12_readItem_102 (by decide) (by decide) (fun c102 => absurd c102 (by decide)) (fun _ => ?_)
          refine ab_aload_n (k := 2) dX12_readItem_105 rfl rfl ?_
          refine ab_dup dX12_readItem_106 rfl ?_
          refine z_getI dX12_readItem_107 fX12_134 rfl (Or.inl rfl) ?_
          refine z_is (y := (((((lk T z (p + 1)) + 1) + 1) : Nat) : Int)) Sn75.2.1 ?_
          refine z_iconst dX12_readItem_110 ?_
          refine z_isub dX12_readItem_111 ?_
          refine z_putI dX12_readItem_112 fX12_134 rfl rfl ?_
          obtain ⟨n112, en112⟩ : ∃ zz : ab_H, zz = zp n75 200 10 ((((((lk T z (p + 1)) + 1) + 1) : Nat) : Int) - 1) := ⟨_, rfl⟩
          rw [← en112]
          have Sn112 : MK T z n112 ((((lk T z (p + 1)) + 1) + 1) - 1) := by rw [en112]; exact MK_at Sn75 hz (by omega) (by omega)
          have sn112 : eq2 n75 n112 := by rw [en112]; exact eq2_z (by omega)
          refine ab_aload_n (k := 2) dX12_readItem_115 rfl rfl ?_
          refine ab_callV (As := []) (rest := []) dX12_readItem_116 lX12_149 rfl (Nat.le_of_ble_eq_true rfl) (Nat.le_of_ble_eq_true rfl) rfl ?_
          refine c_kfails ht Sn112 (fun e116 se116 we116 => ?_)
          show ab_X (d + 1) mX12_readItem 119 [(6, .int (iI (((10 * ((sg T z (p + 1)) - 48)) + (T (((lk T z (p + 1)) + 1)))) - 48))), (5, .int (iI (sg T z (p + 1)))), (0, .ref 200), (1, .ref 208), (2, .int (iI (m : Int))), (3, .int (iI lo)), (4, .int (iI hi))] [.int (iI 0)] e116 _
          refine ab_pop dX12_readItem_119 rfl ?_
          refine z_vret dX12_readItem_120 rfl ?_
          have d1 : dg T z (lk T z (p + 1)) := by assumption
          have e9 : sg T z (p + 1) = T (lk T z (p + 1)) := sg_at d1.1
          first
          | (have d2 : dg T z (lk T z (p + 1) + 1) := by assumption
             have eN : nmb T z 2 (lk T z (p + 1)) 0 = (lk T z (p + 1) + 1 + 1, (0 * 10 + T (lk T z (p + 1)) - 48) * 10 + T (lk T z (p + 1) + 1) - 48) := by rw [nmb_t d1, nmb_t d2, nmb_0]
             have eN1 : (nmb T z 2 (lk T z (p + 1)) 0).1 = lk T z (p + 1) + 1 + 1 := by rw [eN]
             have eN2 : (nmb T z 2 (lk T z (p + 1)) 0).2 = (0 * 10 + T (lk T z (p + 1)) - 48) * 10 + T (lk T z (p + 1) + 1) - 48 := by rw [eN]
             refine k0 _ _ ((kNm_2 d1 (by rw [eN1]; assumption) (by rw [eN2]; omega)).trans (by rw [eN1])) (by omega) (((((sn7.tr sl11).tr sn43).tr sn75).tr sn112).tr se116) ?_
             rw [we116]; omega)
          | (have d2 : ¬ dg T z (lk T z (p + 1) + 1) := by assumption
             have eN : nmb T z 2 (lk T z (p + 1)) 0 = (lk T z (p + 1) + 1, 0 * 10 + T (lk T z (p + 1)) - 48) := by rw [nmb_t d1, nmb_f d2]
             have eN1 : (nmb T z 2 (lk T z (p + 1)) 0).1 = lk T z (p + 1) + 1 := by rw [eN]
             have eN2 : (nmb T z 2 (lk T z (p + 1)) 0).2 = 0 * 10 + T (lk T z (p + 1)) - 48 := by rw [eN]
             refine k0 _ _ ((kNm_2 d1 (by rw [eN1]; assumption) (by rw [eN2]; omega)).trans (by rw [eN1])) (by omega) ((((sn7.tr sl11).tr sn43).tr sn112).tr se116) ?_
             rw [we116]; omega)
    · skip
      show ab_X (d + 1) mX12_readItem 50 [(6, .int (iI ((sg T z (p + 1)) - 48))), (5, .int (iI (sg T z (p + 1)))), (0, .ref 200), (1, .ref 208), (2, .int (iI (m : Int))), (3, .int (iI lo)), (4, .int (iI hi))] [.int (iI 0)] n43 _
      refine z_if_eq (tgt := 78) dX12_readItem_50 (by decide) (by decide) (fun _ => ?_) (fun c50 => absurd c50 (by decide))
      refine ab_aload_n (k := 2) dX12_readItem_78 rfl rfl ?_
      refine ab_callV (As := []) (rest := []) dX12_readItem_79 lX12_183 rfl (Nat.le_of_ble_eq_true rfl) (Nat.le_of_ble_eq_true rfl) rfl ?_
      refine c_kDigit ht Sn43 (fun g79 => ?_) (fun g79 => ?_)
      · skip
        show ab_X (d + 1) mX12_readItem 82 [(6, .int (iI ((sg T z (p + 1)) - 48))), (5, .int (iI (sg T z (p + 1)))), (0, .ref 200), (1, .ref 208), (2, .int (iI (m : Int))), (3, .int (iI lo)), (4, .int (iI hi))] [.int (iI 1)] n43 _
        refine z_if_eq (tgt := 91) dX12_readItem_82 (by decide) (by decide) (fun c82 => absurd c82 (by decide)) (fun _ => ?_)
        refine ab_aload_n (k := 2) dX12_readItem_85 rfl rfl ?_
        refine ab_callV (As := []) (rest := []) dX12_readItem_86 lX12_149 rfl (Nat.le_of_ble_eq_true rfl) (Nat.le_of_ble_eq_true rfl) rfl ?_
        refine c_kfails ht Sn43 (fun e86 se86 we86 => ?_)
        show ab_X (d + 1) mX12_readItem 89 [(6, .int (iI ((sg T z (p + 1)) - 48))), (5, .int (iI (sg T z (p + 1)))), (0, .ref 200), (1, .ref 208), (2, .int (iI (m : Int))), (3, .int (iI lo)), (4, .int (iI hi))] [.int (iI 0)] e86 _
        refine ab_pop dX12_readItem_89 rfl ?_
        refine z_vret dX12_readItem_90 rfl ?_
        have d1 : dg T z (lk T z (p + 1)) := by assumption
        first
        | (have d2 : dg T z (lk T z (p + 1) + 1) := by assumption
           have eN : nmb T z 2 (lk T z (p + 1)) 0 = (lk T z (p + 1) + 1 + 1, (0 * 10 + T (lk T z (p + 1)) - 48) * 10 + T (lk T z (p + 1) + 1) - 48) := by rw [nmb_t d1, nmb_t d2, nmb_0]
           have eN1 : (nmb T z 2 (lk T z (p + 1)) 0).1 = lk T z (p + 1) + 1 + 1 := by rw [eN]
           have eN2 : (nmb T z 2 (lk T z (p + 1)) 0).2 = (0 * 10 + T (lk T z (p + 1)) - 48) * 10 + T (lk T z (p + 1) + 1) - 48 := by rw [eN]
           exact k0 _ _ ((kNm_3 d1 (by rw [eN1]; assumption)).trans (by rw [eN1])) (by omega) ((((sn7.tr sl11).tr sn43).tr sn75).tr se86) we86)
        | exact absurd (by assumption : dg T z (lk T z (p + 1) + 1)) (by assumption)
      · skip
        show ab_X (d + 1) mX12_readItem 82 [(6, .int (iI ((sg T z (p + 1)) - 48))), (5, .int (iI (sg T z (p + 1)))), (0, .ref 200), (1, .ref 208), (2, .int (iI (m : Int))), (3, .int (iI lo)), (4, .int (iI hi))] [.int (iI 0)] n43 _
        refine z_if_eq (tgt := 91) dX12_readItem_82 (by decide) (by decide) (fun _ => ?_) (fun c82 => absurd c82 (by decide))
        refine ab_iload (k := 0) dX12_readItem_91 rfl ?_
        refine z_i2l dX12_readItem_93 (by omega) ?_
        refine ab_iload_n (k := 5) dX12_readItem_94 rfl rfl ?_
        refine z_i2l dX12_readItem_95 (by omega) ?_
        refine ab_iload (k := 6) dX12_readItem_96 rfl ?_
        refine z_i2l dX12_readItem_98 (by omega) ?_
        refine ab_callS (As := [.long (lL ((sg T z (p + 1)) - 48)), .long (lL lo), .long (lL hi)]) (rest := []) dX12_readItem_99 lX12_232 (Nat.le_of_ble_eq_true rfl) (Nat.le_of_ble_eq_true rfl) rfl ?_
        refine c_isIn (by omega) (by omega) (by omega) (fun gi => ?_) (fun gi => ?_)
        · skip
          show ab_X (d + 1) mX12_readItem 102 [(6, .int (iI ((sg T z (p + 1)) - 48))), (5, .int (iI (sg T z (p + 1)))), (0, .ref 200), (1, .ref 208), (2, .int (iI (m : Int))), (3, .int (iI lo)), (4, .int (iI hi))] [.int (iI 1)] n43 _
          refine z_if_ne (tgt := 121) dX12_readItem_102 (by decide) (by decide) (fun _ => ?_) (fun c102 => absurd c102 (by decide))
          refine ab_aload_n (k := 3) dX12_readItem_121 rfl rfl ?_
          refine ab_iload_n (k := 4) dX12_readItem_122 rfl rfl ?_
          refine ab_iload (k := 0) dX12_readItem_123 rfl ?_
          refine z_iast dX12_readItem_125 rfl (by omega) (by omega) ?_
          simp only [Int.toNat_natCast]
          refine z_vret dX12_readItem_126 rfl ?_
          have d1 : dg T z (lk T z (p + 1)) := by assumption
          have e9 : sg T z (p + 1) = T (lk T z (p + 1)) := sg_at d1.1
          first
          | exact absurd (by assumption : dg T z (lk T z (p + 1) + 1)) (by assumption)
          | (have d2 : ¬ dg T z (lk T z (p + 1) + 1) := by assumption
             have eN : nmb T z 2 (lk T z (p + 1)) 0 = (lk T z (p + 1) + 1, 0 * 10 + T (lk T z (p + 1)) - 48) := by rw [nmb_t d1, nmb_f d2]
             have eN1 : (nmb T z 2 (lk T z (p + 1)) 0).1 = lk T z (p + 1) + 1 := by rw [eN]
             have eN2 : (nmb T z 2 (lk T z (p + 1)) 0).2 = 0 * 10 + T (lk T z (p + 1)) - 48 := by rw [eN]
             have eK := kNm_1 (lo := lo) (hi := hi) d1 (by rw [eN1]; assumption) (by rw [eN2]; omega)
             rw [eN1, eN2] at eK
             refine k1 _ _ _ eK (by omega) (by omega) (fun a j h1 h2 => (zv_zp_ne h2).trans (((sn7.tr sl11).tr sn43).1 a j h1)) ?_ ⟨⟨?_, ?_, ?_, fun i hi => ?_⟩, ?_, ?_, ?_⟩
             · rw [zv_zp_s (by omega)]; omega
             · rw [zv_zp_a (by decide)]; exact Sn43.1.1
             · rw [zv_zp_a (by decide)]; exact Sn43.1.2.1
             · exact Sn43.1.2.2.1
             · rw [zv_zp_a (by decide)]; exact Sn43.1.2.2.2 i hi
             · rw [zv_zp_a (by decide)]; exact Sn43.2.1
             · rw [zv_zp_a (by decide)]; exact Sn43.2.2.1
             · exact Sn43.2.2.2)
        · skip
          show ab_X (d + 1) mX12_readItem 102 [(6, .int (iI ((sg T z (p + 1)) - 48))), (5, .int (iI (sg T z (p + 1)))), (0, .ref 200), (1, .ref 208), (2, .int (iI (m : Int))), (3, .int (iI lo)), (4, .int (iI hi))] [.int (iI 0)] n43 _
          refine z_if_ne (tgt := 121) dX12_readItem_102 (by decide) (by decide) (fun c102 => absurd c102 (by decide)) (fun _ => ?_)
          refine ab_aload_n (k := 2) dX12_readItem_105 rfl rfl ?_
          refine ab_dup dX12_readItem_106 rfl ?_
          refine z_getI dX12_readItem_107 fX12_134 rfl (Or.inl rfl) ?_
          refine z_is (y := ((((lk T z (p + 1)) + 1) : Nat) : Int)) Sn43.2.1 ?_
          refine z_iconst dX12_readItem_110 ?_
          refine z_isub dX12_readItem_111 ?_
          refine z_putI dX12_readItem_112 fX12_134 rfl rfl ?_
          obtain ⟨n112, en112⟩ : ∃ zz : ab_H, zz = zp n43 200 10 (((((lk T z (p + 1)) + 1) : Nat) : Int) - 1) := ⟨_, rfl⟩
          rw [← en112]
          have Sn112 : MK T z n112 (((lk T z (p + 1)) + 1) - 1) := by rw [en112]; exact MK_at Sn43 hz (by omega) (by omega)
          have sn112 : eq2 n43 n112 := by rw [en112]; exact eq2_z (by omega)
          refine ab_aload_n (k := 2) dX12_readItem_115 rfl rfl ?_
          refine ab_callV (As := []) (rest := []) dX12_readItem_116 lX12_149 rfl (Nat.le_of_ble_eq_true rfl) (Nat.le_of_ble_eq_true rfl) rfl ?_
          refine c_kfails ht Sn112 (fun e116 se116 we116 => ?_)
          show ab_X (d + 1) mX12_readItem 119 [(6, .int (iI ((sg T z (p + 1)) - 48))), (5, .int (iI (sg T z (p + 1)))), (0, .ref 200), (1, .ref 208), (2, .int (iI (m : Int))), (3, .int (iI lo)), (4, .int (iI hi))] [.int (iI 0)] e116 _
          refine ab_pop dX12_readItem_119 rfl ?_
          refine z_vret dX12_readItem_120 rfl ?_
          have d1 : dg T z (lk T z (p + 1)) := by assumption
          have e9 : sg T z (p + 1) = T (lk T z (p + 1)) := sg_at d1.1
          first
          | (have d2 : dg T z (lk T z (p + 1) + 1) := by assumption
             have eN : nmb T z 2 (lk T z (p + 1)) 0 = (lk T z (p + 1) + 1 + 1, (0 * 10 + T (lk T z (p + 1)) - 48) * 10 + T (lk T z (p + 1) + 1) - 48) := by rw [nmb_t d1, nmb_t d2, nmb_0]
             have eN1 : (nmb T z 2 (lk T z (p + 1)) 0).1 = lk T z (p + 1) + 1 + 1 := by rw [eN]
             have eN2 : (nmb T z 2 (lk T z (p + 1)) 0).2 = (0 * 10 + T (lk T z (p + 1)) - 48) * 10 + T (lk T z (p + 1) + 1) - 48 := by rw [eN]
             refine k0 _ _ ((kNm_2 d1 (by rw [eN1]; assumption) (by rw [eN2]; omega)).trans (by rw [eN1])) (by omega) (((((sn7.tr sl11).tr sn43).tr sn75).tr sn112).tr se116) ?_
             rw [we116]; omega)
          | (have d2 : ¬ dg T z (lk T z (p + 1) + 1) := by assumption
             have eN : nmb T z 2 (lk T z (p + 1)) 0 = (lk T z (p + 1) + 1, 0 * 10 + T (lk T z (p + 1)) - 48) := by rw [nmb_t d1, nmb_f d2]
             have eN1 : (nmb T z 2 (lk T z (p + 1)) 0).1 = lk T z (p + 1) + 1 := by rw [eN]
             have eN2 : (nmb T z 2 (lk T z (p + 1)) 0).2 = 0 * 10 + T (lk T z (p + 1)) - 48 := by rw [eN]
             refine k0 _ _ ((kNm_2 d1 (by rw [eN1]; assumption) (by rw [eN2]; omega)).trans (by rw [eN1])) (by omega) ((((sn7.tr sl11).tr sn43).tr sn112).tr se116) ?_
             rw [we116]; omega)
  · skip
    show ab_X (d + 1) mX12_readItem 20 [(5, .int (iI (sg T z (p + 1)))), (0, .ref 200), (1, .ref 208), (2, .int (iI (m : Int))), (3, .int (iI lo)), (4, .int (iI hi))] [.int (iI 0)] l11 _
    refine z_if_ne (tgt := 29) dX12_readItem_20 (by decide) (by decide) (fun c20 => absurd c20 (by decide)) (fun _ => ?_)
    refine ab_aload_n (k := 1) dX12_readItem_23 rfl rfl ?_
    refine ab_callV (As := []) (rest := []) dX12_readItem_24 lX12_149 rfl (Nat.le_of_ble_eq_true rfl) (Nat.le_of_ble_eq_true rfl) rfl ?_
    refine c_kfails ht Sl11 (fun e24 se24 we24 => ?_)
    show ab_X (d + 1) mX12_readItem 27 [(5, .int (iI (sg T z (p + 1)))), (0, .ref 200), (1, .ref 208), (2, .int (iI (m : Int))), (3, .int (iI lo)), (4, .int (iI hi))] [.int (iI 0)] e24 _
    refine ab_pop dX12_readItem_27 rfl ?_
    refine z_vret dX12_readItem_28 rfl ?_
    have d1 : ¬ dg T z (lk T z (p + 1)) := by assumption
    exact k0 _ _ (kNm_4 d1) (by omega) ((sn7.tr sl11).tr se24) we24
theorem c_kitem210 {d : Nat} {h : ab_H} {Q : ab_Q} {T : Nat → Int} {z p m : Nat} {lo hi : Int}  (ht : tx T z) (hm : m < 8) (hlo : 0 ≤ lo ∧ lo ≤ 99) (hhi : 0 ≤ hi ∧ hi ≤ 99) (Sh : MK T z h p) (hp : p < z) (k1 : ∀ h' q v, kNm T z lo hi (p + 1) = (-1, q, v) → (p < q ∧ q ≤ z) → (lo ≤ v ∧ v ≤ hi) → (∀ a j, ¬ (a = 200 ∧ (j = 10 ∨ j = 11)) → ¬ (a = 210 ∧ j = m) → zv h' a j = zv h a j) → zv h' 210 m = v → MK T z h' q → Q none h') (k0 : ∀ h' w, (kNm T z lo hi (p + 1)).1 = w → ¬ w = -1 → eq2 h h' → zv h' 200 11 = w → Q none h') : ab_X (d + 1) mX12_readItem 0 (lv_args 0 [.ref 200, .ref 210, .int (iI (m : Int)), .int (iI lo), .int (iI hi)]) [] h Q := by
  show ab_X (d + 1) mX12_readItem 0 [(0, .ref 200), (1, .ref 210), (2, .int (iI (m : Int))), (3, .int (iI lo)), (4, .int (iI hi))] [] h Q
  have hz := ht.1
  have hx := Sh.1
  have hpz := Sh.2.2.2
  refine ab_aload_n (k := 0) dX12_readItem_0 rfl rfl ?_
  refine ab_dup dX12_readItem_1 rfl ?_
  refine z_getI dX12_readItem_2 fX12_134 rfl (Or.inl rfl) ?_
  refine z_is (y := ((p : Nat) : Int)) Sh.2.1 ?_
  refine z_iconst dX12_readItem_5 ?_
  refine z_iadd dX12_readItem_6 ?_
  refine z_putI dX12_readItem_7 fX12_134 rfl rfl ?_
  obtain ⟨n7, en7⟩ : ∃ zz : ab_H, zz = zp h 200 10 (((p : Nat) : Int) + 1) := ⟨_, rfl⟩
  rw [← en7]
  have Sn7 : MK T z n7 (p + 1) := by rw [en7]; exact MK_at Sh hz (by omega) (by omega)
  have sn7 : eq2 h n7 := by rw [en7]; exact eq2_z (by omega)
  refine ab_aload_n (k := 0) dX12_readItem_10 rfl rfl ?_
  refine ab_callV (As := []) (rest := []) dX12_readItem_11 lX12_153 rfl (Nat.le_of_ble_eq_true rfl) (Nat.le_of_ble_eq_true rfl) rfl ?_
  refine c_klook ht Sn7 (fun l11 sl11 Sl11 => ?_)
  have k11 := lk_ge T z (p + 1)
  have y11 := sg_b ht (p + 1)
  have q11 := lk_le (T := T) Sn7.2.2.2
  show ab_X (d + 1) mX12_readItem 14 [(0, .ref 200), (1, .ref 210), (2, .int (iI (m : Int))), (3, .int (iI lo)), (4, .int (iI hi))] [.int (iI (sg T z (p + 1)))] l11 _
  refine ab_istore (ls' := [(5, .int (iI (sg T z (p + 1)))), (0, .ref 200), (1, .ref 210), (2, .int (iI (m : Int))), (3, .int (iI lo)), (4, .int (iI hi))]) dX12_readItem_14 (by decide) rfl ?_
  refine ab_aload_n (k := 1) dX12_readItem_16 rfl rfl ?_
  refine ab_callV (As := []) (rest := []) dX12_readItem_17 lX12_183 rfl (Nat.le_of_ble_eq_true rfl) (Nat.le_of_ble_eq_true rfl) rfl ?_
  refine c_kDigit ht Sl11 (fun g17 => ?_) (fun g17 => ?_)
  · skip
    show ab_X (d + 1) mX12_readItem 20 [(5, .int (iI (sg T z (p + 1)))), (0, .ref 200), (1, .ref 210), (2, .int (iI (m : Int))), (3, .int (iI lo)), (4, .int (iI hi))] [.int (iI 1)] l11 _
    refine z_if_ne (tgt := 29) dX12_readItem_20 (by decide) (by decide) (fun _ => ?_) (fun c20 => absurd c20 (by decide))
    have dT := ht.2 (lk T z (p + 1)) (by omega)
    have eS : sg T z (p + 1) = T (lk T z (p + 1)) := sg_at (by omega)
    refine ab_iload (k := 0) dX12_readItem_29 rfl ?_
    refine z_bipush dX12_readItem_31 (by decide) ?_
    refine z_isub dX12_readItem_33 ?_
    refine ab_istore (ls' := [(6, .int (iI ((sg T z (p + 1)) - 48))), (5, .int (iI (sg T z (p + 1)))), (0, .ref 200), (1, .ref 210), (2, .int (iI (m : Int))), (3, .int (iI lo)), (4, .int (iI hi))]) dX12_readItem_34 (by decide) rfl ?_
    refine ab_aload_n (k := 2) dX12_readItem_36 rfl rfl ?_
    refine ab_dup dX12_readItem_37 rfl ?_
    refine z_getI dX12_readItem_38 fX12_134 rfl (Or.inl rfl) ?_
    refine z_is (y := (((lk T z (p + 1)) : Nat) : Int)) Sl11.2.1 ?_
    refine z_iconst dX12_readItem_41 ?_
    refine z_iadd dX12_readItem_42 ?_
    refine z_putI dX12_readItem_43 fX12_134 rfl rfl ?_
    obtain ⟨n43, en43⟩ : ∃ zz : ab_H, zz = zp l11 200 10 ((((lk T z (p + 1)) : Nat) : Int) + 1) := ⟨_, rfl⟩
    rw [← en43]
    have Sn43 : MK T z n43 ((lk T z (p + 1)) + 1) := by rw [en43]; exact MK_at Sl11 hz (by omega) (by omega)
    have sn43 : eq2 l11 n43 := by rw [en43]; exact eq2_z (by omega)
    refine ab_aload_n (k := 2) dX12_readItem_46 rfl rfl ?_
    refine ab_callV (As := []) (rest := []) dX12_readItem_47 lX12_183 rfl (Nat.le_of_ble_eq_true rfl) (Nat.le_of_ble_eq_true rfl) rfl ?_
    refine c_kDigit ht Sn43 (fun g47 => ?_) (fun g47 => ?_)
    · skip
      show ab_X (d + 1) mX12_readItem 50 [(6, .int (iI ((sg T z (p + 1)) - 48))), (5, .int (iI (sg T z (p + 1)))), (0, .ref 200), (1, .ref 210), (2, .int (iI (m : Int))), (3, .int (iI lo)), (4, .int (iI hi))] [.int (iI 1)] n43 _
      refine z_if_eq (tgt := 78) dX12_readItem_50 (by decide) (by decide) (fun c50 => absurd c50 (by decide)) (fun _ => ?_)
      refine z_bipush dX12_readItem_53 (by decide) ?_
      refine ab_iload (k := 0) dX12_readItem_55 rfl ?_
      refine z_imul dX12_readItem_57 ?_
      refine ab_aload_n (k := 2) dX12_readItem_58 rfl rfl ?_
      refine ab_callV (As := []) (rest := [.int (iI (10 * ((sg T z (p + 1)) - 48)))]) dX12_readItem_59 lX12_229 rfl (Nat.le_of_ble_eq_true rfl) (Nat.le_of_ble_eq_true rfl) rfl ?_
      refine c_khere ht Sn43 (by omega) ?_
      have hT2 := ht.2 (((lk T z (p + 1)) + 1)) (by omega)
      show ab_X (d + 1) mX12_readItem 62 [(6, .int (iI ((sg T z (p + 1)) - 48))), (5, .int (iI (sg T z (p + 1)))), (0, .ref 200), (1, .ref 210), (2, .int (iI (m : Int))), (3, .int (iI lo)), (4, .int (iI hi))] [.int (iI (T (((lk T z (p + 1)) + 1)))), .int (iI (10 * ((sg T z (p + 1)) - 48)))] n43 _
      refine z_iadd dX12_readItem_62 ?_
      refine z_bipush dX12_readItem_63 (by decide) ?_
      refine z_isub dX12_readItem_65 ?_
      refine ab_istore (ls' := [(6, .int (iI (((10 * ((sg T z (p + 1)) - 48)) + (T (((lk T z (p + 1)) + 1)))) - 48))), (5, .int (iI (sg T z (p + 1)))), (0, .ref 200), (1, .ref 210), (2, .int (iI (m : Int))), (3, .int (iI lo)), (4, .int (iI hi))]) dX12_readItem_66 (by decide) rfl ?_
      refine ab_aload_n (k := 2) dX12_readItem_68 rfl rfl ?_
      refine ab_dup dX12_readItem_69 rfl ?_
      refine z_getI dX12_readItem_70 fX12_134 rfl (Or.inl rfl) ?_
      refine z_is (y := ((((lk T z (p + 1)) + 1) : Nat) : Int)) Sn43.2.1 ?_
      refine z_iconst dX12_readItem_73 ?_
      refine z_iadd dX12_readItem_74 ?_
      refine z_putI dX12_readItem_75 fX12_134 rfl rfl ?_
      obtain ⟨n75, en75⟩ : ∃ zz : ab_H, zz = zp n43 200 10 (((((lk T z (p + 1)) + 1) : Nat) : Int) + 1) := ⟨_, rfl⟩
      rw [← en75]
      have Sn75 : MK T z n75 (((lk T z (p + 1)) + 1) + 1) := by rw [en75]; exact MK_at Sn43 hz (by omega) (by omega)
      have sn75 : eq2 n43 n75 := by rw [en75]; exact eq2_z (by omega)
      refine ab_aload_n (k := 2) dX12_readItem_78 rfl rfl ?_
      refine ab_callV (As := []) (rest := []) dX12_readItem_79 lX12_183 rfl (Nat.le_of_ble_eq_true rfl) (Nat.le_of_ble_eq_true rfl) rfl ?_
      refine c_kDigit ht Sn75 (fun g79 => ?_) (fun g79 => ?_)
      · skip
        show ab_X (d + 1) mX12_readItem 82 [(6, .int (iI (((10 * ((sg T z (p + 1)) - 48)) + (T (((lk T z (p + 1)) + 1)))) - 48))), (5, .int (iI (sg T z (p + 1)))), (0, .ref 200), (1, .ref 210), (2, .int (iI (m : Int))), (3, .int (iI lo)), (4, .int (iI hi))] [.int (iI 1)] n75 _
        refine z_if_eq (tgt := 91) dX12_readItem_82 (by decide) (by decide) (fun c82 => absurd c82 (by decide)) (fun _ => ?_)
        refine ab_aload_n (k := 2) dX12_readItem_85 rfl rfl ?_
        refine ab_callV (As := []) (rest := []) dX12_readItem_86 lX12_149 rfl (Nat.le_of_ble_eq_true rfl) (Nat.le_of_ble_eq_true rfl) rfl ?_
        refine c_kfails ht Sn75 (fun e86 se86 we86 => ?_)
        show ab_X (d + 1) mX12_readItem 89 [(6, .int (iI (((10 * ((sg T z (p + 1)) - 48)) + (T (((lk T z (p + 1)) + 1)))) - 48))), (5, .int (iI (sg T z (p + 1)))), (0, .ref 200), (1, .ref 210), (2, .int (iI (m : Int))), (3, .int (iI lo)), (4, .int (iI hi))] [.int (iI 0)] e86 _
        refine ab_pop dX12_readItem_89 rfl ?_
        refine z_vret dX12_readItem_90 rfl ?_
        have d1 : dg T z (lk T z (p + 1)) := by assumption
        first
        | (have d2 : dg T z (lk T z (p + 1) + 1) := by assumption
           have eN : nmb T z 2 (lk T z (p + 1)) 0 = (lk T z (p + 1) + 1 + 1, (0 * 10 + T (lk T z (p + 1)) - 48) * 10 + T (lk T z (p + 1) + 1) - 48) := by rw [nmb_t d1, nmb_t d2, nmb_0]
           have eN1 : (nmb T z 2 (lk T z (p + 1)) 0).1 = lk T z (p + 1) + 1 + 1 := by rw [eN]
           have eN2 : (nmb T z 2 (lk T z (p + 1)) 0).2 = (0 * 10 + T (lk T z (p + 1)) - 48) * 10 + T (lk T z (p + 1) + 1) - 48 := by rw [eN]
           exact k0 _ _ ((kNm_3 d1 (by rw [eN1]; assumption)).trans (by rw [eN1])) (by omega) ((((sn7.tr sl11).tr sn43).tr sn75).tr se86) we86)
        | exact absurd (by assumption : dg T z (lk T z (p + 1) + 1)) (by assumption)
      · skip
        show ab_X (d + 1) mX12_readItem 82 [(6, .int (iI (((10 * ((sg T z (p + 1)) - 48)) + (T (((lk T z (p + 1)) + 1)))) - 48))), (5, .int (iI (sg T z (p + 1)))), (0, .ref 200), (1, .ref 210), (2, .int (iI (m : Int))), (3, .int (iI lo)), (4, .int (iI hi))] [.int (iI 0)] n75 _
        refine z_if_eq (tgt := 91) dX12_readItem_82 (by decide) (by decide) (fun _ => ?_) (fun c82 => absurd c82 (by decide))
        refine ab_iload (k := 0) dX12_readItem_91 rfl ?_
        refine z_i2l dX12_readItem_93 (by omega) ?_
        refine ab_iload_n (k := 5) dX12_readItem_94 rfl rfl ?_
        refine z_i2l dX12_readItem_95 (by omega) ?_
        refine ab_iload (k := 6) dX12_readItem_96 rfl ?_
        refine z_i2l dX12_readItem_98 (by omega) ?_
        refine ab_callS (As := [.long (lL (((10 * ((sg T z (p + 1)) - 48)) + (T (((lk T z (p + 1)) + 1)))) - 48)), .long (lL lo), .long (lL hi)]) (rest := []) dX12_readItem_99 lX12_232 (Nat.le_of_ble_eq_true rfl) (Nat.le_of_ble_eq_true rfl) rfl ?_
        refine c_isIn (by omega) (by omega) (by omega) (fun gi => ?_) (fun gi => ?_)
        · skip
          show ab_X (d + 1) mX12_readItem 102 [(6, .int (iI (((10 * ((sg T z (p + 1)) - 48)) + (T (((lk T z (p + 1)) + 1)))) - 48))), (5, .int (iI (sg T z (p + 1)))), (0, .ref 200), (1, .ref 210), (2, .int (iI (m : Int))), (3, .int (iI lo)), (4, .int (iI hi))] [.int (iI 1)] n75 _
          refine z_if_ne (tgt := 121) dX12_readItem_102 (by decide) (by decide) (fun _ => ?_) (fun c102 => absurd c102 (by decide))
          refine ab_aload_n (k := 3) dX12_readItem_121 rfl rfl ?_
          refine ab_iload_n (k := 4) dX12_readItem_122 rfl rfl ?_
          refine ab_iload (k := 0) dX12_readItem_123 rfl ?_
          refine z_iast dX12_readItem_125 rfl (by omega) (by omega) ?_
          simp only [Int.toNat_natCast]
          refine z_vret dX12_readItem_126 rfl ?_
          have d1 : dg T z (lk T z (p + 1)) := by assumption
          have e9 : sg T z (p + 1) = T (lk T z (p + 1)) := sg_at d1.1
          have d2 : dg T z (lk T z (p + 1) + 1) := by assumption
          have eN : nmb T z 2 (lk T z (p + 1)) 0 = (lk T z (p + 1) + 1 + 1, (0 * 10 + T (lk T z (p + 1)) - 48) * 10 + T (lk T z (p + 1) + 1) - 48) := by rw [nmb_t d1, nmb_t d2, nmb_0]
          have eN1 : (nmb T z 2 (lk T z (p + 1)) 0).1 = lk T z (p + 1) + 1 + 1 := by rw [eN]
          have eN2 : (nmb T z 2 (lk T z (p + 1)) 0).2 = (0 * 10 + T (lk T z (p + 1)) - 48) * 10 + T (lk T z (p + 1) + 1) - 48 := by rw [eN]
          have eK := kNm_1 (lo := lo) (hi := hi) d1 (by rw [eN1]; assumption) (by rw [eN2]; omega)
          rw [eN1, eN2] at eK
          refine k1 _ _ _ eK (by omega) (by omega) (fun a j h1 h2 => (zv_zp_ne h2).trans ((((sn7.tr sl11).tr sn43).tr sn75).1 a j h1)) ?_ ⟨⟨?_, ?_, ?_, fun i hi => ?_⟩, ?_, ?_, ?_⟩
          · rw [zv_zp_s (by omega)]; omega
          · rw [zv_zp_a (by decide)]; exact Sn75.1.1
          · rw [zv_zp_a (by decide)]; exact Sn75.1.2.1
          · exact Sn75.1.2.2.1
          · rw [zv_zp_a (by decide)]; exact Sn75.1.2.2.2 i hi
          · rw [zv_zp_a (by decide)]; exact Sn75.2.1
          · rw [zv_zp_a (by decide)]; exact Sn75.2.2.1
          · exact Sn75.2.2.2
        · skip
          show ab_X (d + 1) mX12_readItem 102 [(6, .int (iI (((10 * ((sg T z (p + 1)) - 48)) + (T (((lk T z (p + 1)) + 1)))) - 48))), (5, .int (iI (sg T z (p + 1)))), (0, .ref 200), (1, .ref 210), (2, .int (iI (m : Int))), (3, .int (iI lo)), (4, .int (iI hi))] [.int (iI 0)] n75 _
          refine z_if_ne (tgt := 121) dX12_readItem_102 (by decide) (by decide) (fun c102 => absurd c102 (by decide)) (fun _ => ?_)
          refine ab_aload_n (k := 2) dX12_readItem_105 rfl rfl ?_
          refine ab_dup dX12_readItem_106 rfl ?_
          refine z_getI dX12_readItem_107 fX12_134 rfl (Or.inl rfl) ?_
          refine z_is (y := (((((lk T z (p + 1)) + 1) + 1) : Nat) : Int)) Sn75.2.1 ?_
          refine z_iconst dX12_readItem_110 ?_
          refine z_isub dX12_readItem_111 ?_
          refine z_putI dX12_readItem_112 fX12_134 rfl rfl ?_
          obtain ⟨n112, en112⟩ : ∃ zz : ab_H, zz = zp n75 200 10 ((((((lk T z (p + 1)) + 1) + 1) : Nat) : Int) - 1) := ⟨_, rfl⟩
          rw [← en112]
          have Sn112 : MK T z n112 ((((lk T z (p + 1)) + 1) + 1) - 1) := by rw [en112]; exact MK_at Sn75 hz (by omega) (by omega)
          have sn112 : eq2 n75 n112 := by rw [en112]; exact eq2_z (by omega)
          refine ab_aload_n (k := 2) dX12_readItem_115 rfl rfl ?_
          refine ab_callV (As := []) (rest := []) dX12_readItem_116 lX12_149 rfl (Nat.le_of_ble_eq_true rfl) (Nat.le_of_ble_eq_true rfl) rfl ?_
          refine c_kfails ht Sn112 (fun e116 se116 we116 => ?_)
          show ab_X (d + 1) mX12_readItem 119 [(6, .int (iI (((10 * ((sg T z (p + 1)) - 48)) + (T (((lk T z (p + 1)) + 1)))) - 48))), (5, .int (iI (sg T z (p + 1)))), (0, .ref 200), (1, .ref 210), (2, .int (iI (m : Int))), (3, .int (iI lo)), (4, .int (iI hi))] [.int (iI 0)] e116 _
          refine ab_pop dX12_readItem_119 rfl ?_
          refine z_vret dX12_readItem_120 rfl ?_
          have d1 : dg T z (lk T z (p + 1)) := by assumption
          have e9 : sg T z (p + 1) = T (lk T z (p + 1)) := sg_at d1.1
          first
          | (have d2 : dg T z (lk T z (p + 1) + 1) := by assumption
             have eN : nmb T z 2 (lk T z (p + 1)) 0 = (lk T z (p + 1) + 1 + 1, (0 * 10 + T (lk T z (p + 1)) - 48) * 10 + T (lk T z (p + 1) + 1) - 48) := by rw [nmb_t d1, nmb_t d2, nmb_0]
             have eN1 : (nmb T z 2 (lk T z (p + 1)) 0).1 = lk T z (p + 1) + 1 + 1 := by rw [eN]
             have eN2 : (nmb T z 2 (lk T z (p + 1)) 0).2 = (0 * 10 + T (lk T z (p + 1)) - 48) * 10 + T (lk T z (p + 1) + 1) - 48 := by rw [eN]
             refine k0 _ _ ((kNm_2 d1 (by rw [eN1]; assumption) (by rw [eN2]; omega)).trans (by rw [eN1])) (by omega) (((((sn7.tr sl11).tr sn43).tr sn75).tr sn112).tr se116) ?_
             rw [we116]; omega)
          | (have d2 : ¬ dg T z (lk T z (p + 1) + 1) := by assumption
             have eN : nmb T z 2 (lk T z (p + 1)) 0 = (lk T z (p + 1) + 1, 0 * 10 + T (lk T z (p + 1)) - 48) := by rw [nmb_t d1, nmb_f d2]
             have eN1 : (nmb T z 2 (lk T z (p + 1)) 0).1 = lk T z (p + 1) + 1 := by rw [eN]
             have eN2 : (nmb T z 2 (lk T z (p + 1)) 0).2 = 0 * 10 + T (lk T z (p + 1)) - 48 := by rw [eN]
             refine k0 _ _ ((kNm_2 d1 (by rw [eN1]; assumption) (by rw [eN2]; omega)).trans (by rw [eN1])) (by omega) ((((sn7.tr sl11).tr sn43).tr sn112).tr se116) ?_
             rw [we116]; omega)
    · skip
      show ab_X (d + 1) mX12_readItem 50 [(6, .int (iI ((sg T z (p + 1)) - 48))), (5, .int (iI (sg T z (p + 1)))), (0, .ref 200), (1, .ref 210), (2, .int (iI (m : Int))), (3, .int (iI lo)), (4, .int (iI hi))] [.int (iI 0)] n43 _
      refine z_if_eq (tgt := 78) dX12_readItem_50 (by decide) (by decide) (fun _ => ?_) (fun c50 => absurd c50 (by decide))
      refine ab_aload_n (k := 2) dX12_readItem_78 rfl rfl ?_
      refine ab_callV (As := []) (rest := []) dX12_readItem_79 lX12_183 rfl (Nat.le_of_ble_eq_true rfl) (Nat.le_of_ble_eq_true rfl) rfl ?_
      refine c_kDigit ht Sn43 (fun g79 => ?_) (fun g79 => ?_)
      · skip
        show ab_X (d + 1) mX12_readItem 82 [(6, .int (iI ((sg T z (p + 1)) - 48))), (5, .int (iI (sg T z (p + 1)))), (0, .ref 200), (1, .ref 210), (2, .int (iI (m : Int))), (3, .int (iI lo)), (4, .int (iI hi))] [.int (iI 1)] n43 _
        refine z_if_eq (tgt := 91) dX12_readItem_82 (by decide) (by decide) (fun c82 => absurd c82 (by decide)) (fun _ => ?_)
        refine ab_aload_n (k := 2) dX12_readItem_85 rfl rfl ?_
        refine ab_callV (As := []) (rest := []) dX12_readItem_86 lX12_149 rfl (Nat.le_of_ble_eq_true rfl) (Nat.le_of_ble_eq_true rfl) rfl ?_
        refine c_kfails ht Sn43 (fun e86 se86 we86 => ?_)
        show ab_X (d + 1) mX12_readItem 89 [(6, .int (iI ((sg T z (p + 1)) - 48))), (5, .int (iI (sg T z (p + 1)))), (0, .ref 200), (1, .ref 210), (2, .int (iI (m : Int))), (3, .int (iI lo)), (4, .int (iI hi))] [.int (iI 0)] e86 _
        refine ab_pop dX12_readItem_89 rfl ?_
        refine z_vret dX12_readItem_90 rfl ?_
        have d1 : dg T z (lk T z (p + 1)) := by assumption
        first
        | (have d2 : dg T z (lk T z (p + 1) + 1) := by assumption
           have eN : nmb T z 2 (lk T z (p + 1)) 0 = (lk T z (p + 1) + 1 + 1, (0 * 10 + T (lk T z (p + 1)) - 48) * 10 + T (lk T z (p + 1) + 1) - 48) := by rw [nmb_t d1, nmb_t d2, nmb_0]
           have eN1 : (nmb T z 2 (lk T z (p + 1)) 0).1 = lk T z (p + 1) + 1 + 1 := by rw [eN]
           have eN2 : (nmb T z 2 (lk T z (p + 1)) 0).2 = (0 * 10 + T (lk T z (p + 1)) - 48) * 10 + T (lk T z (p + 1) + 1) - 48 := by rw [eN]
           exact k0 _ _ ((kNm_3 d1 (by rw [eN1]; assumption)).trans (by rw [eN1])) (by omega) ((((sn7.tr sl11).tr sn43).tr sn75).tr se86) we86)
        | exact absurd (by assumption : dg T z (lk T z (p + 1) + 1)) (by assumption)
      · skip
        show ab_X (d + 1) mX12_readItem 82 [(6, .int (iI ((sg T z (p + 1)) - 48))), (5, .int (iI (sg T z (p + 1)))), (0, .ref 200), (1, .ref 210), (2, .int (iI (m : Int))), (3, .int (iI lo)), (4, .int (iI hi))] [.int (iI 0)] n43 _
        refine z_if_eq (tgt := 91) dX12_readItem_82 (by decide) (by decide) (fun _ => ?_) (fun c82 => absurd c82 (by decide))
        refine ab_iload (k := 0) dX12_readItem_91 rfl ?_
        refine z_i2l dX12_readItem_93 (by omega) ?_
        refine ab_iload_n (k := 5) dX12_readItem_94 rfl rfl ?_
        refine z_i2l dX12_readItem_95 (by omega) ?_
        refine ab_iload (k := 6) dX12_readItem_96 rfl ?_
        refine z_i2l dX12_readItem_98 (by omega) ?_
        refine ab_callS (As := [.long (lL ((sg T z (p + 1)) - 48)), .long (lL lo), .long (lL hi)]) (rest := []) dX12_readItem_99 lX12_232 (Nat.le_of_ble_eq_true rfl) (Nat.le_of_ble_eq_true rfl) rfl ?_
        refine c_isIn (by omega) (by omega) (by omega) (fun gi => ?_) (fun gi => ?_)
        · skip
          show ab_X (d + 1) mX12_readItem 102 [(6, .int (iI ((sg T z (p + 1)) - 48))), (5, .int (iI (sg T z (p + 1)))), (0, .ref 200), (1, .ref 210), (2, .int (iI (m : Int))), (3, .int (iI lo)), (4, .int (iI hi))] [.int (iI 1)] n43 _
          refine z_if_ne (tgt := 121) dX12_readItem_102 (by decide) (by decide) (fun _ => ?_) (fun c102 => absurd c102 (by decide))
          refine ab_aload_n (k := 3) dX12_readItem_121 rfl rfl ?_
          refine ab_iload_n (k := 4) dX12_readItem_122 rfl rfl ?_
          refine ab_iload (k := 0) dX12_readItem_123 rfl ?_
          refine z_iast dX12_readItem_125 rfl (by omega) (by omega) ?_
          simp only [Int.toNat_natCast]
          refine z_vret dX12_readItem_126 rfl ?_
          have d1 : dg T z (lk T z (p + 1)) := by assumption
          have e9 : sg T z (p + 1) = T (lk T z (p + 1)) := sg_at d1.1
          first
          | exact absurd (by assumption : dg T z (lk T z (p + 1) + 1)) (by assumption)
          | (have d2 : ¬ dg T z (lk T z (p + 1) + 1) := by assumption
             have eN : nmb T z 2 (lk T z (p + 1)) 0 = (lk T z (p + 1) + 1, 0 * 10 + T (lk T z (p + 1)) - 48) := by rw [nmb_t d1, nmb_f d2]
             have eN1 : (nmb T z 2 (lk T z (p + 1)) 0).1 = lk T z (p + 1) + 1 := by rw [eN]
             have eN2 : (nmb T z 2 (lk T z (p + 1)) 0).2 = 0 * 10 + T (lk T z (p + 1)) - 48 := by rw [eN]
             have eK := kNm_1 (lo := lo) (hi := hi) d1 (by rw [eN1]; assumption) (by rw [eN2]; omega)
             rw [eN1, eN2] at eK
             refine k1 _ _ _ eK (by omega) (by omega) (fun a j h1 h2 => (zv_zp_ne h2).trans (((sn7.tr sl11).tr sn43).1 a j h1)) ?_ ⟨⟨?_, ?_, ?_, fun i hi => ?_⟩, ?_, ?_, ?_⟩
             · rw [zv_zp_s (by omega)]; omega
             · rw [zv_zp_a (by decide)]; exact Sn43.1.1
             · rw [zv_zp_a (by decide)]; exact Sn43.1.2.1
             · exact Sn43.1.2.2.1
             · rw [zv_zp_a (by decide)]; exact Sn43.1.2.2.2 i hi
             · rw [zv_zp_a (by decide)]; exact Sn43.2.1
             · rw [zv_zp_a (by decide)]; exact Sn43.2.2.1
             · exact Sn43.2.2.2)
        · skip
          show ab_X (d + 1) mX12_readItem 102 [(6, .int (iI ((sg T z (p + 1)) - 48))), (5, .int (iI (sg T z (p + 1)))), (0, .ref 200), (1, .ref 210), (2, .int (iI (m : Int))), (3, .int (iI lo)), (4, .int (iI hi))] [.int (iI 0)] n43 _
          refine z_if_ne (tgt := 121) dX12_readItem_102 (by decide) (by decide) (fun c102 => absurd c102 (by decide)) (fun _ => ?_)
          refine ab_aload_n (k := 2) dX12_readItem_105 rfl rfl ?_
          refine ab_dup dX12_readItem_106 rfl ?_
          refine z_getI dX12_readItem_107 fX12_134 rfl (Or.inl rfl) ?_
          refine z_is (y := ((((lk T z (p + 1)) + 1) : Nat) : Int)) Sn43.2.1 ?_
          refine z_iconst dX12_readItem_110 ?_
          refine z_isub dX12_readItem_111 ?_
          refine z_putI dX12_readItem_112 fX12_134 rfl rfl ?_
          obtain ⟨n112, en112⟩ : ∃ zz : ab_H, zz = zp n43 200 10 (((((lk T z (p + 1)) + 1) : Nat) : Int) - 1) := ⟨_, rfl⟩
          rw [← en112]
          have Sn112 : MK T z n112 (((lk T z (p + 1)) + 1) - 1) := by rw [en112]; exact MK_at Sn43 hz (by omega) (by omega)
          have sn112 : eq2 n43 n112 := by rw [en112]; exact eq2_z (by omega)
          refine ab_aload_n (k := 2) dX12_readItem_115 rfl rfl ?_
          refine ab_callV (As := []) (rest := []) dX12_readItem_116 lX12_149 rfl (Nat.le_of_ble_eq_true rfl) (Nat.le_of_ble_eq_true rfl) rfl ?_
          refine c_kfails ht Sn112 (fun e116 se116 we116 => ?_)
          show ab_X (d + 1) mX12_readItem 119 [(6, .int (iI ((sg T z (p + 1)) - 48))), (5, .int (iI (sg T z (p + 1)))), (0, .ref 200), (1, .ref 210), (2, .int (iI (m : Int))), (3, .int (iI lo)), (4, .int (iI hi))] [.int (iI 0)] e116 _
          refine ab_pop dX12_readItem_119 rfl ?_
          refine z_vret dX12_readItem_120 rfl ?_
          have d1 : dg T z (lk T z (p + 1)) := by assumption
          have e9 : sg T z (p + 1) = T (lk T z (p + 1)) := sg_at d1.1
          first
          | (have d2 : dg T z (lk T z (p + 1) + 1) := by assumption
             have eN : nmb T z 2 (lk T z (p + 1)) 0 = (lk T z (p + 1) + 1 + 1, (0 * 10 + T (lk T z (p + 1)) - 48) * 10 + T (lk T z (p + 1) + 1) - 48) := by rw [nmb_t d1, nmb_t d2, nmb_0]
             have eN1 : (nmb T z 2 (lk T z (p + 1)) 0).1 = lk T z (p + 1) + 1 + 1 := by rw [eN]
             have eN2 : (nmb T z 2 (lk T z (p + 1)) 0).2 = (0 * 10 + T (lk T z (p + 1)) - 48) * 10 + T (lk T z (p + 1) + 1) - 48 := by rw [eN]
             refine k0 _ _ ((kNm_2 d1 (by rw [eN1]; assumption) (by rw [eN2]; omega)).trans (by rw [eN1])) (by omega) (((((sn7.tr sl11).tr sn43).tr sn75).tr sn112).tr se116) ?_
             rw [we116]; omega)
          | (have d2 : ¬ dg T z (lk T z (p + 1) + 1) := by assumption
             have eN : nmb T z 2 (lk T z (p + 1)) 0 = (lk T z (p + 1) + 1, 0 * 10 + T (lk T z (p + 1)) - 48) := by rw [nmb_t d1, nmb_f d2]
             have eN1 : (nmb T z 2 (lk T z (p + 1)) 0).1 = lk T z (p + 1) + 1 := by rw [eN]
             have eN2 : (nmb T z 2 (lk T z (p + 1)) 0).2 = 0 * 10 + T (lk T z (p + 1)) - 48 := by rw [eN]
             refine k0 _ _ ((kNm_2 d1 (by rw [eN1]; assumption) (by rw [eN2]; omega)).trans (by rw [eN1])) (by omega) ((((sn7.tr sl11).tr sn43).tr sn112).tr se116) ?_
             rw [we116]; omega)
  · skip
    show ab_X (d + 1) mX12_readItem 20 [(5, .int (iI (sg T z (p + 1)))), (0, .ref 200), (1, .ref 210), (2, .int (iI (m : Int))), (3, .int (iI lo)), (4, .int (iI hi))] [.int (iI 0)] l11 _
    refine z_if_ne (tgt := 29) dX12_readItem_20 (by decide) (by decide) (fun c20 => absurd c20 (by decide)) (fun _ => ?_)
    refine ab_aload_n (k := 1) dX12_readItem_23 rfl rfl ?_
    refine ab_callV (As := []) (rest := []) dX12_readItem_24 lX12_149 rfl (Nat.le_of_ble_eq_true rfl) (Nat.le_of_ble_eq_true rfl) rfl ?_
    refine c_kfails ht Sl11 (fun e24 se24 we24 => ?_)
    show ab_X (d + 1) mX12_readItem 27 [(5, .int (iI (sg T z (p + 1)))), (0, .ref 200), (1, .ref 210), (2, .int (iI (m : Int))), (3, .int (iI lo)), (4, .int (iI hi))] [.int (iI 0)] e24 _
    refine ab_pop dX12_readItem_27 rfl ?_
    refine z_vret dX12_readItem_28 rfl ?_
    have d1 : ¬ dg T z (lk T z (p + 1)) := by assumption
    exact k0 _ _ (kNm_4 d1) (by omega) ((sn7.tr sl11).tr se24) we24
theorem c_kleast0 {d : Nat} {h : ab_H} {Q : ab_Q} {k : Nat}  (hk : k < 3) (K : Q (some (.int (iI (kl 0 k)))) h) : ab_X d mX12_leastOf 0 (lv_args 0 [.int (iI 107), .int (iI (k : Int))]) [] h Q := by
  show ab_X d mX12_leastOf 0 [(0, .int (iI 107)), (1, .int (iI (k : Int)))] [] h Q
  have K2 := K
  unfold kl at K2
  rw [if_pos rfl] at K2
  refine ab_iload_n (k := 0) dX12_leastOf_0 rfl rfl ?_
  refine z_bipush dX12_leastOf_1 (by decide) ?_
  refine z_icmp_ne (tgt := 16) dX12_leastOf_3 (by decide) (by decide) (by decide) (fun c3 => absurd c3 (by decide)) (fun _ => ?_)
  refine ab_iload_n (k := 1) dX12_leastOf_6 rfl rfl ?_
  refine z_if_ne (tgt := 14) dX12_leastOf_7 (by decide) (by omega) (fun c7 => ?_) (fun c7 => ?_)
  · skip
    refine z_iconst dX12_leastOf_14 ?_
    refine z_iret dX12_leastOf_15 rfl ?_
    first | exact K2 | (rw [if_pos (by omega)] at K2; exact K2) | (rw [if_neg (by omega)] at K2; exact K2)
  · skip
    refine z_iconst dX12_leastOf_10 ?_
    refine ab_goto (tgt := 15) dX12_leastOf_11 (by decide) ?_
    refine z_iret dX12_leastOf_15 rfl ?_
    first | exact K2 | (rw [if_pos (by omega)] at K2; exact K2) | (rw [if_neg (by omega)] at K2; exact K2)
theorem c_kmost0 {d : Nat} {h : ab_H} {Q : ab_Q} {k : Nat}  (hk : k < 3) (K : Q (some (.int (iI (km 0 k)))) h) : ab_X d mX12_mostOf 0 (lv_args 0 [.int (iI 107), .int (iI (k : Int))]) [] h Q := by
  show ab_X d mX12_mostOf 0 [(0, .int (iI 107)), (1, .int (iI (k : Int)))] [] h Q
  have K2 := K
  unfold km at K2
  rw [if_pos rfl] at K2
  refine ab_iload_n (k := 0) dX12_mostOf_0 rfl rfl ?_
  refine z_bipush dX12_mostOf_1 (by decide) ?_
  refine z_icmp_ne (tgt := 18) dX12_mostOf_3 (by decide) (by decide) (by decide) (fun c3 => absurd c3 (by decide)) (fun _ => ?_)
  refine ab_iload_n (k := 1) dX12_mostOf_6 rfl rfl ?_
  refine z_if_ne (tgt := 15) dX12_mostOf_7 (by decide) (by omega) (fun c7 => ?_) (fun c7 => ?_)
  · skip
    refine z_bipush dX12_mostOf_15 (by decide) ?_
    refine z_iret dX12_mostOf_17 rfl ?_
    first | exact K2 | (rw [if_pos (by omega)] at K2; exact K2) | (rw [if_neg (by omega)] at K2; exact K2)
  · skip
    refine z_bipush dX12_mostOf_10 (by decide) ?_
    refine ab_goto (tgt := 17) dX12_mostOf_12 (by decide) ?_
    refine z_iret dX12_mostOf_17 rfl ?_
    first | exact K2 | (rw [if_pos (by omega)] at K2; exact K2) | (rw [if_neg (by omega)] at K2; exact K2)
theorem c_kleast1 {d : Nat} {h : ab_H} {Q : ab_Q} {k : Nat}  (hk : k < 2) (K : Q (some (.int (iI (kl 1 k)))) h) : ab_X d mX12_leastOf 0 (lv_args 0 [.int (iI 115), .int (iI (k : Int))]) [] h Q := by
  show ab_X d mX12_leastOf 0 [(0, .int (iI 115)), (1, .int (iI (k : Int)))] [] h Q
  have K2 := K
  unfold kl at K2
  rw [if_neg (by decide), if_pos rfl] at K2
  refine ab_iload_n (k := 0) dX12_leastOf_0 rfl rfl ?_
  refine z_bipush dX12_leastOf_1 (by decide) ?_
  refine z_icmp_ne (tgt := 16) dX12_leastOf_3 (by decide) (by decide) (by decide) (fun _ => ?_) (fun c3 => absurd c3 (by decide))
  refine ab_iload_n (k := 0) dX12_leastOf_16 rfl rfl ?_
  refine z_bipush dX12_leastOf_17 (by decide) ?_
  refine z_icmp_eq (tgt := 27) dX12_leastOf_19 (by decide) (by decide) (by decide) (fun _ => ?_) (fun c19 => absurd c19 (by decide))
  refine z_iconst dX12_leastOf_27 ?_
  refine ab_goto (tgt := 32) dX12_leastOf_28 (by decide) ?_
  refine z_iret dX12_leastOf_32 rfl ?_
  first | exact K2 | (rw [if_pos (by omega)] at K2; exact K2) | (rw [if_neg (by omega)] at K2; exact K2)
theorem c_kmost1 {d : Nat} {h : ab_H} {Q : ab_Q} {k : Nat}  (hk : k < 2) (K : Q (some (.int (iI (km 1 k)))) h) : ab_X d mX12_mostOf 0 (lv_args 0 [.int (iI 115), .int (iI (k : Int))]) [] h Q := by
  show ab_X d mX12_mostOf 0 [(0, .int (iI 115)), (1, .int (iI (k : Int)))] [] h Q
  have K2 := K
  unfold km at K2
  rw [if_neg (by decide), if_pos rfl] at K2
  refine ab_iload_n (k := 0) dX12_mostOf_0 rfl rfl ?_
  refine z_bipush dX12_mostOf_1 (by decide) ?_
  refine z_icmp_ne (tgt := 18) dX12_mostOf_3 (by decide) (by decide) (by decide) (fun _ => ?_) (fun c3 => absurd c3 (by decide))
  refine ab_iload_n (k := 0) dX12_mostOf_18 rfl rfl ?_
  refine z_bipush dX12_mostOf_19 (by decide) ?_
  refine z_icmp_ne (tgt := 33) dX12_mostOf_21 (by decide) (by decide) (by decide) (fun _ => ?_) (fun c21 => absurd c21 (by decide))
  refine z_bipush dX12_mostOf_33 (by decide) ?_
  refine z_iret dX12_mostOf_35 rfl ?_
  first | exact K2 | (rw [if_pos (by omega)] at K2; exact K2) | (rw [if_neg (by omega)] at K2; exact K2)
theorem c_kleast2 {d : Nat} {h : ab_H} {Q : ab_Q} {k : Nat}  (hk : k < 2) (K : Q (some (.int (iI (kl 2 k)))) h) : ab_X d mX12_leastOf 0 (lv_args 0 [.int (iI 103), .int (iI (k : Int))]) [] h Q := by
  show ab_X d mX12_leastOf 0 [(0, .int (iI 103)), (1, .int (iI (k : Int)))] [] h Q
  have K2 := K
  unfold kl at K2
  rw [if_neg (by decide), if_neg (by decide)] at K2
  refine ab_iload_n (k := 0) dX12_leastOf_0 rfl rfl ?_
  refine z_bipush dX12_leastOf_1 (by decide) ?_
  refine z_icmp_ne (tgt := 16) dX12_leastOf_3 (by decide) (by decide) (by decide) (fun _ => ?_) (fun c3 => absurd c3 (by decide))
  refine ab_iload_n (k := 0) dX12_leastOf_16 rfl rfl ?_
  refine z_bipush dX12_leastOf_17 (by decide) ?_
  refine z_icmp_eq (tgt := 27) dX12_leastOf_19 (by decide) (by decide) (by decide) (fun c19 => absurd c19 (by decide)) (fun _ => ?_)
  refine ab_iload_n (k := 1) dX12_leastOf_22 rfl rfl ?_
  refine z_iconst dX12_leastOf_23 ?_
  refine z_icmp_ne (tgt := 31) dX12_leastOf_24 (by decide) (by omega) (by decide) (fun c24 => ?_) (fun c24 => ?_)
  · skip
    refine z_iconst dX12_leastOf_31 ?_
    refine z_iret dX12_leastOf_32 rfl ?_
    first | exact K2 | (rw [if_pos (by omega)] at K2; exact K2) | (rw [if_neg (by omega)] at K2; exact K2)
  · skip
    refine z_iconst dX12_leastOf_27 ?_
    refine ab_goto (tgt := 32) dX12_leastOf_28 (by decide) ?_
    refine z_iret dX12_leastOf_32 rfl ?_
    first | exact K2 | (rw [if_pos (by omega)] at K2; exact K2) | (rw [if_neg (by omega)] at K2; exact K2)
theorem c_kmost2 {d : Nat} {h : ab_H} {Q : ab_Q} {k : Nat}  (hk : k < 2) (K : Q (some (.int (iI (km 2 k)))) h) : ab_X d mX12_mostOf 0 (lv_args 0 [.int (iI 103), .int (iI (k : Int))]) [] h Q := by
  show ab_X d mX12_mostOf 0 [(0, .int (iI 103)), (1, .int (iI (k : Int)))] [] h Q
  have K2 := K
  unfold km at K2
  rw [if_neg (by decide), if_neg (by decide)] at K2
  refine ab_iload_n (k := 0) dX12_mostOf_0 rfl rfl ?_
  refine z_bipush dX12_mostOf_1 (by decide) ?_
  refine z_icmp_ne (tgt := 18) dX12_mostOf_3 (by decide) (by decide) (by decide) (fun _ => ?_) (fun c3 => absurd c3 (by decide))
  refine ab_iload_n (k := 0) dX12_mostOf_18 rfl rfl ?_
  refine z_bipush dX12_mostOf_19 (by decide) ?_
  refine z_icmp_ne (tgt := 33) dX12_mostOf_21 (by decide) (by decide) (by decide) (fun c21 => absurd c21 (by decide)) (fun _ => ?_)
  refine ab_iload_n (k := 1) dX12_mostOf_24 rfl rfl ?_
  refine z_if_ne (tgt := 33) dX12_mostOf_25 (by decide) (by omega) (fun c25 => ?_) (fun c25 => ?_)
  · skip
    refine z_bipush dX12_mostOf_33 (by decide) ?_
    refine z_iret dX12_mostOf_35 rfl ?_
    first | exact K2 | (rw [if_pos (by omega)] at K2; exact K2) | (rw [if_neg (by omega)] at K2; exact K2)
  · skip
    refine z_bipush dX12_mostOf_28 (by decide) ?_
    refine ab_goto (tgt := 35) dX12_mostOf_30 (by decide) ?_
    refine z_iret dX12_mostOf_35 rfl ?_
    first | exact K2 | (rw [if_pos (by omega)] at K2; exact K2) | (rw [if_neg (by omega)] at K2; exact K2)
