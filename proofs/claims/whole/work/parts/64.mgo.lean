/-! THE MODEL GOES THROUGH A RULE, from its first clause to its last -/
def F11 (h0 h : ab_H) : Prop := (∀ a j, a ≠ 200 → zv h a j = zv h0 a j) ∧ ∀ j, ¬ (8 ≤ j ∧ j ≤ 14) → ¬ j = 17 → zv h 200 j = zv h0 200 j
theorem F11.rf {h : ab_H} : F11 h h := ⟨fun _ _ _ => rfl, fun _ _ _ => rfl⟩
theorem F11.tr {a b c : ab_H} (x : F11 a b) (y : F11 b c) : F11 a c := ⟨fun p q r => (y.1 p q r).trans (x.1 p q r), fun j p q => (y.2 j p q).trans (x.2 j p q)⟩
theorem F11_z {h : ab_H} {j : Nat} {x : Int} (hj : (8 ≤ j ∧ j ≤ 14) ∨ j = 17) : F11 h (zp h 200 j x) := ⟨fun a i ha => zv_zp_a ha, fun i p q => zv_zp_ne (by omega)⟩
theorem F11_p {h : ab_H} {t : Nat} : F11 h (ab_pp h t) := ⟨fun _ _ _ => rfl, fun _ _ _ => rfl⟩
theorem nin200 {a : Nat} (h : a ≠ 200) : a ∉ [200] := by simp only [List.mem_cons, List.not_mem_nil, or_false]; exact h
theorem F11_F {h0 h : ab_H} (f : FM h0 h) : F11 h0 h := ⟨fun a j ha => f.1.1 a j (nin200 ha), fun j p _ => f.2 j (by omega)⟩
theorem F11_G {z : Nat} {h0 h : ab_H} {p : Nat} {x y : Int} (g : GM z h0 h p x y) : F11 h0 h := ⟨fun a j ha => g.1.1 a j (nin200 ha), fun j p q => g.2.1 j (by omega) (by omega) q⟩
theorem MX_G {T : Nat → Int} {z t b n : Nat} {env : Nat → Int} {h0 h : ab_H} {p : Nat} {u v : Int} (x : MX T z t b n env h0) (f : GM z h0 h p u v) : MX T z t b n env h := by
  obtain ⟨a1, a2, a3, a4, a5, a6, a7, a8⟩ := x
  have ht : t ≠ 200 := fun e => by rw [e] at a5; cases a5
  exact ⟨(f.2.1 9 (by omega) (by omega) (by omega)).trans a1, (f.2.1 8 (by omega) (by omega) (by omega)).trans a2, f.1.2.2.trans a3, fun i hi => (f.1.1 t _ (nin200 ht)).trans (a4 i hi), a5, a6, a7, fun s hs => by rw [f.1.1 204 _ (by decide)]; exact a8 s hs⟩
theorem ML_G {z : Nat} {h0 h : ab_H} {p : Nat} {u v : Int} (f : GM z h0 h p u v) : ML z h h p 0 := ⟨FM.rf, f.2.2.1, f.2.2.2.1, f.2.2.2.2.1, f.2.2.2.2.2.1, by omega⟩
/-- a text opened -/
def OPN (h h' : ab_H) (t : Nat) (b z : Int) : Prop := F11 h h' ∧ h'.2.2 = t ∧ zv h' 200 8 = b ∧ zv h' 200 9 = z ∧ zv h' 200 10 = 0 ∧ zv h' 200 11 = -1
theorem c_opens201 {d : Nat} {h : ab_H} {Q : ab_Q} {b z : Int} (hb : inR b) (hz : inR z) (K : ∀ h', OPN h h' 201 b z → Q none h') : ab_X d mX12_opens 0 (lv_args 0 [.ref 200, .ref 201, .int (iI b), .int (iI z)]) [] h Q := by
  show ab_X d mX12_opens 0 [(0, .ref 200), (1, .ref 201), (2, .int (iI b)), (3, .int (iI z))] [] h Q
  refine ab_aload_n (k := 0) dX12_opens_0 rfl rfl ?_
  refine ab_aload_n (k := 1) dX12_opens_1 rfl rfl ?_
  refine ab_putT dX12_opens_2 fX12_23 (Or.inl rfl) ?_
  refine ab_aload_n (k := 0) dX12_opens_5 rfl rfl ?_
  refine ab_iload_n (k := 2) dX12_opens_6 rfl rfl ?_
  refine z_putI dX12_opens_7 fX12_140 rfl rfl ?_
  refine ab_aload_n (k := 0) dX12_opens_10 rfl rfl ?_
  refine ab_iload_n (k := 3) dX12_opens_11 rfl rfl ?_
  refine z_putI dX12_opens_12 fX12_137 rfl rfl ?_
  refine ab_aload_n (k := 0) dX12_opens_15 rfl rfl ?_
  refine z_iconst dX12_opens_16 ?_
  refine z_putI dX12_opens_17 fX12_134 rfl rfl ?_
  refine ab_aload_n (k := 0) dX12_opens_20 rfl rfl ?_
  refine z_iconst dX12_opens_21 ?_
  refine z_putI dX12_opens_22 fX12_143 rfl rfl ?_
  refine z_vret dX12_opens_25 rfl ?_
  refine K _ ⟨(((F11_p.tr (F11_z (by omega))).tr (F11_z (by omega))).tr (F11_z (by omega))).tr (F11_z (by omega)), rfl, ?_, ?_, ?_, ?_⟩
  · rw [zv_zp_ne (by decide), zv_zp_ne (by decide), zv_zp_ne (by decide), zv_zp_s hb]
  · rw [zv_zp_ne (by decide), zv_zp_ne (by decide), zv_zp_s hz]
  · rw [zv_zp_ne (by decide), zv_zp_s (by decide)]
  · rw [zv_zp_s (by decide)]
theorem c_opens202 {d : Nat} {h : ab_H} {Q : ab_Q} {b z : Int} (hb : inR b) (hz : inR z) (K : ∀ h', OPN h h' 202 b z → Q none h') : ab_X d mX12_opens 0 (lv_args 0 [.ref 200, .ref 202, .int (iI b), .int (iI z)]) [] h Q := by
  show ab_X d mX12_opens 0 [(0, .ref 200), (1, .ref 202), (2, .int (iI b)), (3, .int (iI z))] [] h Q
  refine ab_aload_n (k := 0) dX12_opens_0 rfl rfl ?_
  refine ab_aload_n (k := 1) dX12_opens_1 rfl rfl ?_
  refine ab_putT dX12_opens_2 fX12_23 (Or.inr rfl) ?_
  refine ab_aload_n (k := 0) dX12_opens_5 rfl rfl ?_
  refine ab_iload_n (k := 2) dX12_opens_6 rfl rfl ?_
  refine z_putI dX12_opens_7 fX12_140 rfl rfl ?_
  refine ab_aload_n (k := 0) dX12_opens_10 rfl rfl ?_
  refine ab_iload_n (k := 3) dX12_opens_11 rfl rfl ?_
  refine z_putI dX12_opens_12 fX12_137 rfl rfl ?_
  refine ab_aload_n (k := 0) dX12_opens_15 rfl rfl ?_
  refine z_iconst dX12_opens_16 ?_
  refine z_putI dX12_opens_17 fX12_134 rfl rfl ?_
  refine ab_aload_n (k := 0) dX12_opens_20 rfl rfl ?_
  refine z_iconst dX12_opens_21 ?_
  refine z_putI dX12_opens_22 fX12_143 rfl rfl ?_
  refine z_vret dX12_opens_25 rfl ?_
  refine K _ ⟨(((F11_p.tr (F11_z (by omega))).tr (F11_z (by omega))).tr (F11_z (by omega))).tr (F11_z (by omega)), rfl, ?_, ?_, ?_, ?_⟩
  · rw [zv_zp_ne (by decide), zv_zp_ne (by decide), zv_zp_ne (by decide), zv_zp_s hb]
  · rw [zv_zp_ne (by decide), zv_zp_ne (by decide), zv_zp_s hz]
  · rw [zv_zp_ne (by decide), zv_zp_s (by decide)]
  · rw [zv_zp_s (by decide)]
theorem dl_mgo {d : Nat} {h : ab_H} {Q : ab_Q} {z : Nat} {h0 : ab_H} {w : Int}  (Seh : MD z h0 h w) (K : Q none h) : ab_X (d + 34) mX12_goThrough 32 [(0, .ref 200)] [] h Q := by
  refine ab_aload_n (k := 0) dX12_goThrough_32 rfl rfl ?_
  refine z_getI dX12_goThrough_33 fX12_143 rfl (Or.inl rfl) ?_
  have b1 := zv_R h 200 11
  refine z_iconst dX12_goThrough_36 ?_
  refine z_icmp_ne (tgt := 66) dX12_goThrough_37 (by decide) (by omega) (by decide) (fun c37 => ?_) (fun c37 => absurd c37 (fun q => Seh.2.2.1 (Seh.2.1.symm.trans q)))
  refine ab_aload_n (k := 0) dX12_goThrough_66 rfl rfl ?_
  refine z_getI dX12_goThrough_67 fX12_143 rfl (Or.inl rfl) ?_
  have b2 := zv_R h 200 11
  refine z_iconst dX12_goThrough_70 ?_
  refine z_icmp_ne (tgt := 87) dX12_goThrough_71 (by decide) (by omega) (by decide) (fun c71 => ?_) (fun c71 => absurd c71 (fun q => Seh.2.2.1 (Seh.2.1.symm.trans q)))
  refine z_vret dX12_goThrough_87 rfl ?_
  exact K
theorem lp_mgo {d : Nat} {Q : ab_Q} {h00 : ab_H} {T : Nat → Int} {z t b n : Nat} {env : Nat → Int} {R : pR}  (ht : tx T z) (K1 : ∀ h' p' c', R = (-1, p', c') → F11 h00 h' → zv h' 200 11 = -1 → (zv h' 200 14 = wrt env c' 0 0 [] ∧ -1000000 ≤ zv h' 200 14 ∧ zv h' 200 14 ≤ 1000000) → Q none h') (K0 : ∀ h' w, R.1 = w → ¬ w = -1 → F11 h00 h' → zv h' 200 11 = w → Q none h') : ∀ (nn : Nat) (h0 : ab_H) (q : Nat) (i : Nat) (c : List (Int × Int)) (hf : Int) (fv : Int) (h : ab_H), 160 - i = nn → (MX T z t b n env h0) → (ML z h0 h q 0) → (F11 h00 h0) → (zv h0 200 13 = 121) → (zv h0 200 17 = hf) → (zv h0 200 14 = fv) → (fnd env c hf fv) → (i ≤ 160) → (i ≤ q) → (pRL T z (160 - i) q c = R) → ab_X (d + 34) mX12_goThrough 32 [(0, .ref 200)] [] h Q := by
  intro nn
  induction nn using Nat.strongRecOn with
  | ind nn ih =>
  intro h0 q i c hf fv h hnn hx0 Sh hF h13 h17 h14 hfn hi hiq hR
  have hz := ht.1
  have hx := MX_F hx0 Sh.1
  have hk := hx.2.2.2.2.1
  have hbn := hx.2.2.2.2.2.1
  have hn1 := hx.2.2.2.2.2.2.1
  have hpz := Sh.2.2.2.2.1
  refine ab_aload_n (k := 0) dX12_goThrough_32 rfl rfl ?_
  refine z_getI dX12_goThrough_33 fX12_143 rfl (Or.inl rfl) ?_
  refine z_is (y := (-1)) Sh.2.2.1 ?_
  refine z_iconst dX12_goThrough_36 ?_
  refine z_icmp_ne (tgt := 66) dX12_goThrough_37 (by decide) (by decide) (by decide) (fun c37 => absurd c37 (by decide)) (fun _ => ?_)
  refine ab_aload_n (k := 0) dX12_goThrough_40 rfl rfl ?_
  refine ab_callV (As := []) (rest := []) dX12_goThrough_41 lX12_153 rfl (Nat.le_of_ble_eq_true rfl) (Nat.le_of_ble_eq_true rfl) rfl ?_
  refine c_mlook ht hx0 Sh (fun l41 Sl41 => ?_)
  have k41 := lk_ge T z q
  have y41 := sg_b ht q
  show ab_X (d + 34) mX12_goThrough 44 [(0, .ref 200)] [.int (iI (sg T z q))] l41 _
  refine z_bipush dX12_goThrough_44 (by decide) ?_
  refine z_icmp_ne (tgt := 66) dX12_goThrough_46 (by decide) (by omega) (by decide) (fun c46 => ?_) (fun c46 => ?_)
  · skip
    refine ab_aload_n (k := 0) dX12_goThrough_66 rfl rfl ?_
    refine z_getI dX12_goThrough_67 fX12_143 rfl (Or.inl rfl) ?_
    refine z_is (y := (-1)) Sl41.2.2.1 ?_
    refine z_iconst dX12_goThrough_70 ?_
    refine z_icmp_ne (tgt := 87) dX12_goThrough_71 (by decide) (by decide) (by decide) (fun c71 => absurd c71 (by decide)) (fun _ => ?_)
    refine ab_aload_n (k := 0) dX12_goThrough_74 rfl rfl ?_
    refine ab_callV (As := []) (rest := []) dX12_goThrough_75 lX12_153 rfl (Nat.le_of_ble_eq_true rfl) (Nat.le_of_ble_eq_true rfl) rfl ?_
    refine c_mlook2 ht hx0 Sl41 (fun l75 Sl75 => ?_)
    have y75 := sg_b ht q
    show ab_X (d + 34) mX12_goThrough 78 [(0, .ref 200)] [.int (iI (sg T z q))] l75 _
    refine z_iconst dX12_goThrough_78 ?_
    refine z_icmp_eq (tgt := 87) dX12_goThrough_79 (by decide) (by omega) (by decide) (fun c79 => ?_) (fun c79 => ?_)
    · skip
      refine z_vret dX12_goThrough_87 rfl ?_
      have e3 := rl_3 (T := T) (z := z) (p := q) (c := c) (f := 160 - i) (by omega)
      rw [hR] at e3
      have fb := fnd_v hfn
      have e14 : zv l75 200 14 = fv := (Sl75.1.2 14 (by omega)).trans h14
      exact K1 _ _ _ e3 (hF.tr (F11_F Sl75.1)) Sl75.2.2.1 ⟨e14.trans (fnd_e hfn).symm, by omega⟩
    · skip
      refine ab_aload_n (k := 0) dX12_goThrough_82 rfl rfl ?_
      refine ab_callV (As := []) (rest := []) dX12_goThrough_83 lX12_149 rfl (Nat.le_of_ble_eq_true rfl) (Nat.le_of_ble_eq_true rfl) rfl ?_
      refine c_mfails ht hx0 Sl75 (fun e83 Se83 => ?_)
      show ab_X (d + 34) mX12_goThrough 86 [(0, .ref 200)] [.int (iI 0)] e83 _
      refine ab_pop dX12_goThrough_86 rfl ?_
      refine z_vret dX12_goThrough_87 rfl ?_
      exact K0 _ _ (by rw [← hR]; exact rl_4 (by omega) (by omega)) (by omega) (hF.tr (F11_F Se83.1)) Se83.2.1
  · skip
    have z49 := sg_in (T := T) (z := z) (p := q) (by omega)
    refine ab_aload_n (k := 0) dX12_goThrough_49 rfl rfl ?_
    refine ab_dup dX12_goThrough_50 rfl ?_
    refine z_getI dX12_goThrough_51 fX12_134 rfl (Or.inl rfl) ?_
    refine z_is (y := (((lk T z q) : Nat) : Int)) Sl41.2.1 ?_
    refine z_iconst dX12_goThrough_54 ?_
    refine z_iadd dX12_goThrough_55 ?_
    refine z_putI dX12_goThrough_56 fX12_134 rfl rfl ?_
    obtain ⟨n56, en56⟩ : ∃ zz : ab_H, zz = zp l41 200 10 ((((lk T z q) : Nat) : Int) + 1) := ⟨_, rfl⟩
    refine z_h (h' := n56) en56.symm ?_
    have Sn56 : ML z h0 n56 ((lk T z q) + 1) 0 := by rw [en56]; exact ML_at Sl41 hz (by omega) (by omega)
    refine ab_aload_n (k := 0) dX12_goThrough_59 rfl rfl ?_
    refine ab_callV (As := []) (rest := []) dX12_goThrough_60 lX12_226 rfl (Nat.le_of_ble_eq_true rfl) (Nat.le_of_ble_eq_true rfl) rfl ?_
    refine c_mclause (k := c.length) ht hx0 Sn56 h13 h17 h14 (fnd_b hfn) (fun l60 p60 c60 is60 v60 j60 b60 cv60 ib60 G60 => ?_) (fun e60 w60 j60 n60 Se60 => ?_)
    · skip
      have r60 := G60.2.2.2.2.2.1
      show ab_X (d + 34) mX12_goThrough 63 [(0, .ref 200)] [] l60 _
      refine ab_goto (tgt := 32) dX12_goThrough_63 (by decide) ?_
      refine ab_sub (ls' := [(0, .ref 200)]) (ks := [0]) rfl ?_
      refine ih _ (by omega) l60 p60 (i + 1) (c ++ c60) _ _ l60 rfl (MX_G hx0 G60) (ML_G G60) (hF.tr (F11_G G60)) ((G60.2.1 13 (by omega) (by omega) (by omega)).trans h13) G60.2.2.2.2.2.2.1 G60.2.2.2.2.2.2.2 (fnd_s hfn cv60 ib60) (by omega) (by omega) ?_
      rw [← hR, show 160 - i = (160 - (i + 1)) + 1 by omega]
      exact (rl_1 (by omega) j60).symm
    · skip
      show ab_X (d + 34) mX12_goThrough 63 [(0, .ref 200)] [] e60 _
      refine ab_goto (tgt := 32) dX12_goThrough_63 (by decide) ?_
      refine ab_sub (ls' := [(0, .ref 200)]) (ks := [0]) rfl ?_
      exact dl_mgo Se60 (K0 _ _ (by rw [← hR, show 160 - i = (159 - i) + 1 by omega]; exact rl_2 (by omega) j60 n60) n60 (hF.tr (F11_F Se60.1)) Se60.2.1)
theorem c_mgo201 {d : Nat} {h : ab_H} {Q : ab_Q} {T : Nat → Int} {z b : Nat} {env : Nat → Int}  (ht : tx T z) (hbz : b + z ≤ 160) (hT : ∀ i, i < z → zv h 201 (b + i) = sby (T i)) (hE : ∀ s, ¬ li s = -1 → zv h 204 s.toNat = env (li s).toNat ∧ -1000000 ≤ env (li s).toNat ∧ env (li s).toNat ≤ 1000000) (K1 : ∀ h' p' c', pRu T z = (-1, p', c') → F11 h h' → zv h' 200 11 = -1 → (zv h' 200 14 = wrt env c' 0 0 [] ∧ -1000000 ≤ zv h' 200 14 ∧ zv h' 200 14 ≤ 1000000) → Q none h') (K0 : ∀ h' w, (pRu T z).1 = w → ¬ w = -1 → F11 h h' → zv h' 200 11 = w → Q none h') : ab_X (d + 34) mX12_goThrough 0 (lv_args 0 [.ref 200, .ref 201, .int (iI (b : Int)), .int (iI (z : Int))]) [] h Q := by
  show ab_X (d + 34) mX12_goThrough 0 [(0, .ref 200), (1, .ref 201), (2, .int (iI (b : Int))), (3, .int (iI (z : Int)))] [] h Q
  have hz := ht.1
  refine ab_aload_n (k := 0) dX12_goThrough_0 rfl rfl ?_
  refine ab_aload_n (k := 1) dX12_goThrough_1 rfl rfl ?_
  refine ab_iload_n (k := 2) dX12_goThrough_2 rfl rfl ?_
  refine ab_iload_n (k := 3) dX12_goThrough_3 rfl rfl ?_
  refine ab_callV (As := [.ref 201, .int (iI (b : Int)), .int (iI (z : Int))]) (rest := []) dX12_goThrough_4 lX12_222 rfl (Nat.le_of_ble_eq_true rfl) (Nat.le_of_ble_eq_true rfl) rfl ?_
  refine c_opens201 (by omega) (by omega) (fun o4 O4 => ?_)
  show ab_X (d + 34) mX12_goThrough 7 [(0, .ref 200), (1, .ref 201), (2, .int (iI (b : Int))), (3, .int (iI (z : Int)))] [] o4 _
  refine ab_aload_n (k := 0) dX12_goThrough_7 rfl rfl ?_
  refine z_bipush dX12_goThrough_8 (by decide) ?_
  refine z_putI dX12_goThrough_10 fX12_216 rfl rfl ?_
  refine ab_aload_n (k := 0) dX12_goThrough_13 rfl rfl ?_
  refine z_iconst dX12_goThrough_14 ?_
  refine z_putI dX12_goThrough_15 fX12_146 rfl rfl ?_
  refine ab_aload_n (k := 0) dX12_goThrough_18 rfl rfl ?_
  refine z_iconst dX12_goThrough_19 ?_
  refine z_putZ dX12_goThrough_20 fX12_212 rfl rfl (Or.inl rfl) ?_
  refine ab_aload_n (k := 0) dX12_goThrough_23 rfl rfl ?_
  refine z_iconst dX12_goThrough_24 ?_
  refine z_putI dX12_goThrough_25 fX12_219 rfl rfl ?_
  obtain ⟨h0, eh0⟩ : ∃ zz : ab_H, zz = zp (zp (zp (zp o4 200 13 121) 200 12 0) 200 17 0) 200 14 0 := ⟨_, rfl⟩
  refine z_h (h' := h0) eh0.symm ?_
  have f0 : F11 o4 h0 := by rw [eh0]; exact (((F11_z (by omega)).tr (F11_z (by omega))).tr (F11_z (by omega))).tr (F11_z (by omega))
  have hF : F11 h h0 := O4.1.tr f0
  have h13 : zv h0 200 13 = 121 := by rw [eh0, zv_zp_ne (by decide), zv_zp_ne (by decide), zv_zp_ne (by decide), zv_zp_s (by decide)]
  have h17 : zv h0 200 17 = 0 := by rw [eh0, zv_zp_ne (by decide), zv_zp_s (by decide)]
  have h14 : zv h0 200 14 = 0 := by rw [eh0, zv_zp_s (by decide)]
  have o : ∀ j, 8 ≤ j ∧ j ≤ 11 → zv h0 200 j = zv o4 200 j := fun j hj => by rw [eh0, zv_zp_ne (by omega), zv_zp_ne (by omega), zv_zp_ne (by omega), zv_zp_ne (by omega)]
  have h12 : zv h0 200 12 = 0 := by rw [eh0, zv_zp_ne (by decide), zv_zp_ne (by decide), zv_zp_s (by decide)]
  have hx0 : MX T z 201 b 160 env h0 := ⟨(o 9 (by omega)).trans O4.2.2.2.1, (o 8 (by omega)).trans O4.2.2.1, by rw [eh0]; exact O4.2.1, fun i hi => (hF.1 _ _ (by decide)).trans (hT i hi), rfl, hbz, by decide, fun s hs => by rw [hF.1 204 _ (by decide)]; exact hE s hs⟩
  have Sh0 : ML z h0 h0 0 0 := ⟨FM.rf, (o 10 (by omega)).trans O4.2.2.2.2.1, (o 11 (by omega)).trans O4.2.2.2.2.2, h12, by omega, by omega⟩
  have hfn := fnd_0 (env := env)
  refine ab_aload_n (k := 0) dX12_goThrough_28 rfl rfl ?_
  refine ab_callV (As := []) (rest := []) dX12_goThrough_29 lX12_226 rfl (Nat.le_of_ble_eq_true rfl) (Nat.le_of_ble_eq_true rfl) rfl ?_
  refine c_mclause (k := 0) ht hx0 Sh0 h13 h17 h14 (fnd_b hfn) (fun l29 p29 c29 is29 v29 j29 b29 cv29 ib29 G29 => ?_) (fun e29 w29 j29 n29 Se29 => ?_)
  · skip
    have r29 := G29.2.2.2.2.2.1
    show ab_X (d + 34) mX12_goThrough 32 [(0, .ref 200), (1, .ref 201), (2, .int (iI (b : Int))), (3, .int (iI (z : Int)))] [] l29 _
    refine ab_sub (ls' := [(0, .ref 200)]) (ks := [0]) rfl ?_
    exact lp_mgo ht K1 K0 _ l29 p29 0 c29 _ _ l29 rfl (MX_G hx0 G29) (ML_G G29) (hF.tr (F11_G G29)) ((G29.2.1 13 (by omega) (by omega) (by omega)).trans h13) G29.2.2.2.2.2.2.1 G29.2.2.2.2.2.2.2 (fnd_s hfn cv29 ib29) (by omega) (by omega) (ru_1 j29).symm
  · skip
    show ab_X (d + 34) mX12_goThrough 32 [(0, .ref 200), (1, .ref 201), (2, .int (iI (b : Int))), (3, .int (iI (z : Int)))] [] e29 _
    refine ab_sub (ls' := [(0, .ref 200)]) (ks := [0]) rfl ?_
    exact dl_mgo Se29 (K0 _ _ (ru_2 j29 n29) n29 (hF.tr (F11_F Se29.1)) Se29.2.1)
theorem c_mgo202 {d : Nat} {h : ab_H} {Q : ab_Q} {T : Nat → Int} {z b : Nat} {env : Nat → Int}  (ht : tx T z) (hbz : b + z ≤ 640) (hT : ∀ i, i < z → zv h 202 (b + i) = sby (T i)) (hE : ∀ s, ¬ li s = -1 → zv h 204 s.toNat = env (li s).toNat ∧ -1000000 ≤ env (li s).toNat ∧ env (li s).toNat ≤ 1000000) (K1 : ∀ h' p' c', pRu T z = (-1, p', c') → F11 h h' → zv h' 200 11 = -1 → (zv h' 200 14 = wrt env c' 0 0 [] ∧ -1000000 ≤ zv h' 200 14 ∧ zv h' 200 14 ≤ 1000000) → Q none h') (K0 : ∀ h' w, (pRu T z).1 = w → ¬ w = -1 → F11 h h' → zv h' 200 11 = w → Q none h') : ab_X (d + 34) mX12_goThrough 0 (lv_args 0 [.ref 200, .ref 202, .int (iI (b : Int)), .int (iI (z : Int))]) [] h Q := by
  show ab_X (d + 34) mX12_goThrough 0 [(0, .ref 200), (1, .ref 202), (2, .int (iI (b : Int))), (3, .int (iI (z : Int)))] [] h Q
  have hz := ht.1
  refine ab_aload_n (k := 0) dX12_goThrough_0 rfl rfl ?_
  refine ab_aload_n (k := 1) dX12_goThrough_1 rfl rfl ?_
  refine ab_iload_n (k := 2) dX12_goThrough_2 rfl rfl ?_
  refine ab_iload_n (k := 3) dX12_goThrough_3 rfl rfl ?_
  refine ab_callV (As := [.ref 202, .int (iI (b : Int)), .int (iI (z : Int))]) (rest := []) dX12_goThrough_4 lX12_222 rfl (Nat.le_of_ble_eq_true rfl) (Nat.le_of_ble_eq_true rfl) rfl ?_
  refine c_opens202 (by omega) (by omega) (fun o4 O4 => ?_)
  show ab_X (d + 34) mX12_goThrough 7 [(0, .ref 200), (1, .ref 202), (2, .int (iI (b : Int))), (3, .int (iI (z : Int)))] [] o4 _
  refine ab_aload_n (k := 0) dX12_goThrough_7 rfl rfl ?_
  refine z_bipush dX12_goThrough_8 (by decide) ?_
  refine z_putI dX12_goThrough_10 fX12_216 rfl rfl ?_
  refine ab_aload_n (k := 0) dX12_goThrough_13 rfl rfl ?_
  refine z_iconst dX12_goThrough_14 ?_
  refine z_putI dX12_goThrough_15 fX12_146 rfl rfl ?_
  refine ab_aload_n (k := 0) dX12_goThrough_18 rfl rfl ?_
  refine z_iconst dX12_goThrough_19 ?_
  refine z_putZ dX12_goThrough_20 fX12_212 rfl rfl (Or.inl rfl) ?_
  refine ab_aload_n (k := 0) dX12_goThrough_23 rfl rfl ?_
  refine z_iconst dX12_goThrough_24 ?_
  refine z_putI dX12_goThrough_25 fX12_219 rfl rfl ?_
  obtain ⟨h0, eh0⟩ : ∃ zz : ab_H, zz = zp (zp (zp (zp o4 200 13 121) 200 12 0) 200 17 0) 200 14 0 := ⟨_, rfl⟩
  refine z_h (h' := h0) eh0.symm ?_
  have f0 : F11 o4 h0 := by rw [eh0]; exact (((F11_z (by omega)).tr (F11_z (by omega))).tr (F11_z (by omega))).tr (F11_z (by omega))
  have hF : F11 h h0 := O4.1.tr f0
  have h13 : zv h0 200 13 = 121 := by rw [eh0, zv_zp_ne (by decide), zv_zp_ne (by decide), zv_zp_ne (by decide), zv_zp_s (by decide)]
  have h17 : zv h0 200 17 = 0 := by rw [eh0, zv_zp_ne (by decide), zv_zp_s (by decide)]
  have h14 : zv h0 200 14 = 0 := by rw [eh0, zv_zp_s (by decide)]
  have o : ∀ j, 8 ≤ j ∧ j ≤ 11 → zv h0 200 j = zv o4 200 j := fun j hj => by rw [eh0, zv_zp_ne (by omega), zv_zp_ne (by omega), zv_zp_ne (by omega), zv_zp_ne (by omega)]
  have h12 : zv h0 200 12 = 0 := by rw [eh0, zv_zp_ne (by decide), zv_zp_ne (by decide), zv_zp_s (by decide)]
  have hx0 : MX T z 202 b 640 env h0 := ⟨(o 9 (by omega)).trans O4.2.2.2.1, (o 8 (by omega)).trans O4.2.2.1, by rw [eh0]; exact O4.2.1, fun i hi => (hF.1 _ _ (by decide)).trans (hT i hi), rfl, hbz, by decide, fun s hs => by rw [hF.1 204 _ (by decide)]; exact hE s hs⟩
  have Sh0 : ML z h0 h0 0 0 := ⟨FM.rf, (o 10 (by omega)).trans O4.2.2.2.2.1, (o 11 (by omega)).trans O4.2.2.2.2.2, h12, by omega, by omega⟩
  have hfn := fnd_0 (env := env)
  refine ab_aload_n (k := 0) dX12_goThrough_28 rfl rfl ?_
  refine ab_callV (As := []) (rest := []) dX12_goThrough_29 lX12_226 rfl (Nat.le_of_ble_eq_true rfl) (Nat.le_of_ble_eq_true rfl) rfl ?_
  refine c_mclause (k := 0) ht hx0 Sh0 h13 h17 h14 (fnd_b hfn) (fun l29 p29 c29 is29 v29 j29 b29 cv29 ib29 G29 => ?_) (fun e29 w29 j29 n29 Se29 => ?_)
  · skip
    have r29 := G29.2.2.2.2.2.1
    show ab_X (d + 34) mX12_goThrough 32 [(0, .ref 200), (1, .ref 202), (2, .int (iI (b : Int))), (3, .int (iI (z : Int)))] [] l29 _
    refine ab_sub (ls' := [(0, .ref 200)]) (ks := [0]) rfl ?_
    exact lp_mgo ht K1 K0 _ l29 p29 0 c29 _ _ l29 rfl (MX_G hx0 G29) (ML_G G29) (hF.tr (F11_G G29)) ((G29.2.1 13 (by omega) (by omega) (by omega)).trans h13) G29.2.2.2.2.2.2.1 G29.2.2.2.2.2.2.2 (fnd_s hfn cv29 ib29) (by omega) (by omega) (ru_1 j29).symm
  · skip
    show ab_X (d + 34) mX12_goThrough 32 [(0, .ref 200), (1, .ref 202), (2, .int (iI (b : Int))), (3, .int (iI (z : Int)))] [] e29 _
    refine ab_sub (ls' := [(0, .ref 200)]) (ks := [0]) rfl ?_
    exact dl_mgo Se29 (K0 _ _ (ru_2 j29 n29) n29 (hF.tr (F11_F Se29.1)) Se29.2.1)
