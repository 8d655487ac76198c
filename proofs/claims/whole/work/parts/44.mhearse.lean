/-! HEARSE of the model -/
def hmx (h : ab_H) (g bg : Nat → Bool) (ln : Nat → Nat) (n : Nat) : Prop := zv h 200 32 = n ∧ n ≤ 20 ∧ (∀ y, y < 20 → (g y = true ↔ zv h 211 y = -2)) ∧ (∀ y, y < 20 → (bg y = true ↔ zv h 211 y = y)) ∧ (∀ c, c < 20 → bg c = true → ∃ s : Nat, s < 4 ∧ zv h 212 c = s ∧ zv h 207 (2 * s) = ln c ∧ ln c ≤ 9) ∧ (∀ y, y < 20 → 0 ≤ zv h 211 y → ∃ c : Nat, zv h 211 y = c ∧ c < 20 ∧ bg c = true ∧ c ≤ y ∧ y < c + ln c) ∧ ∀ c : Nat, c < 20 → bg c = true → ∀ y, c ≤ y → y < c + ln c → zv h 211 y = c
def F8 (h0 h : ab_H) : Prop := sm [200] h0 h ∧ ∀ j, j ≠ 44 → j ≠ 45 → zv h 200 j = zv h0 200 j
theorem F8.rf {h : ab_H} : F8 h h := ⟨sm.refl, fun _ _ _ => rfl⟩
theorem F8.tr {a b c : ab_H} (x : F8 a b) (y : F8 b c) : F8 a c := ⟨x.1.trans y.1, fun j p q => (y.2 j p q).trans (x.2 j p q)⟩
theorem F8_put {h0 h : ab_H} {x y : Int} (f : F8 h0 h) : F8 h0 (zp (zp h 200 44 x) 200 45 y) := ⟨(f.1.trans (sm_zp (by decide))).trans (sm_zp (by decide)), fun j a b => by rw [zv_zp_ne (by omega), zv_zp_ne (by omega)]; exact f.2 j a b⟩
theorem hmx_F {h h' : ab_H} {g bg : Nat → Bool} {ln : Nat → Nat} {n : Nat} (s : F8 h h') (x : hmx h g bg ln n) : hmx h' g bg ln n := by
  obtain ⟨a, b, e, f, i, j, k⟩ := x
  have o : ∀ b j, b ≠ 200 → zv h' b j = zv h b j := fun b j hb => s.1.1 b j (by simp [hb])
  refine ⟨(s.2 32 (by decide) (by decide)).trans a, b, fun y hy => by rw [o _ _ (by decide)]; exact e y hy, fun y hy => by rw [o _ _ (by decide)]; exact f y hy, fun c hc hb => ?_, fun y hy hz => ?_, fun c hc hb y y1 y2 => by rw [o _ _ (by decide)]; exact k c hc hb y y1 y2⟩
  · obtain ⟨t, t1, t2, t3, t4⟩ := i c hc hb
    exact ⟨t, t1, by rw [o _ _ (by decide)]; exact t2, by rw [o _ _ (by decide)]; exact t3, t4⟩
  · rw [o _ _ (by decide)] at hz ⊢; exact j y hy hz
theorem glb_own {g bg : Nat → Bool} {ln : Nat → Nat} {n c : Nat} {to : Int} (cx : CX g bg ln n) (hc : c < 20) (hb : bg c = true) : glb g n to ((c : Int) + ln c) = true ↔ glb g n to c = true := by
  have h := cx c hc hb
  constructor
  · intro q; exact glb_iff.mpr (fun y a b => glb_iff.mp q y a (by omega))
  · intro q
    refine glb_iff.mpr (fun y a b => ?_)
    by_cases e : y < c
    · exact glb_iff.mp q y a e
    · exact ⟨by omega, by omega, h.2.2.2.1 y.toNat (by omega) (by omega)⟩
theorem glb_own2 {g bg : Nat → Bool} {ln : Nat → Nat} {n c : Nat} {to : Int} (cx : CX g bg ln n) (hc : c < 20) (hb : bg c = true) : glb g n c to = true ↔ glb g n ((c : Int) + ln c) to = true := by
  have h := cx c hc hb
  constructor
  · intro q; exact glb_iff.mpr (fun y a b => glb_iff.mp q y (by omega) b)
  · intro q
    refine glb_iff.mpr (fun y a b => ?_)
    by_cases e : (c : Int) + ln c ≤ y
    · exact glb_iff.mp q y e b
    · exact ⟨by omega, by omega, h.2.2.2.1 y.toNat (by omega) (by omega)⟩
theorem c_isUp {d : Nat} {h : ab_H} {Q : ab_Q} {g bg : Nat → Bool} {ln : Nat → Nat} {n : Nat} {c p l : Nat} (hx : hmx h g bg ln n) (hc : c < 20) (hb : bg c = true) (hp : p ≤ 20 ∧ l ≤ 9) (k1 : ¬ ahd ln p l c = true → Q (some (.int (iI 1))) h) (k0 : ahd ln p l c = true → Q (some (.int (iI 0))) h) : ab_X (d + 1) mX12_isUp 0 (lv_args 0 [.ref 200, .int (iI (c : Int)), .int (iI (l : Int)), .int (iI (p : Int))]) [] h Q := by
  show ab_X (d + 1) mX12_isUp 0 [(0, .ref 200), (1, .int (iI (c : Int))), (2, .int (iI (l : Int))), (3, .int (iI (p : Int)))] [] h Q
  obtain ⟨s, hs1, hs2, hs3, hs4⟩ := hx.2.2.2.2.1 c hc hb
  refine z_iconst dX12_isUp_0 ?_
  refine ab_iload_n (k := 1) dX12_isUp_1 rfl rfl ?_
  refine z_imul dX12_isUp_2 ?_
  refine ab_aload_n (k := 0) dX12_isUp_3 rfl rfl ?_
  refine ab_aload_n (k := 0) dX12_isUp_4 rfl rfl ?_
  refine z_getP (b := 212) dX12_isUp_5 fX12_58 rfl rfl rfl ?_
  refine ab_iload_n (k := 1) dX12_isUp_8 rfl rfl ?_
  refine z_iald dX12_isUp_9 rfl (by omega) (by omega) ?_
  simp only [Int.toNat_natCast]
  refine z_is (y := (s : Int)) hs2 ?_
  refine ab_callV (As := [.int (iI (s : Int))]) (rest := [.int (iI (2 * (c : Int)))]) dX12_isUp_10 lX12_312 rfl (Nat.le_of_ble_eq_true rfl) (Nat.le_of_ble_eq_true rfl) rfl ?_
  refine c_mlengthOf (by omega) ?_
  rw [show zv h 207 (2 * ((s : Nat) : Int).toNat) = (ln c : Int) from hs3]
  show ab_X (d + 1) mX12_isUp 13 [(0, .ref 200), (1, .int (iI (c : Int))), (2, .int (iI (l : Int))), (3, .int (iI (p : Int)))] [.int (iI (ln c : Int)), .int (iI (2 * (c : Int)))] h _
  refine z_iadd dX12_isUp_13 ?_
  refine z_iconst dX12_isUp_14 ?_
  refine ab_iload_n (k := 3) dX12_isUp_15 rfl rfl ?_
  refine z_imul dX12_isUp_16 ?_
  refine ab_iload_n (k := 2) dX12_isUp_17 rfl rfl ?_
  refine z_iadd dX12_isUp_18 ?_
  refine z_icmp_lt (tgt := 26) dX12_isUp_19 (by decide) (by omega) (by omega) (fun c19 => ?_) (fun c19 => ?_)
  · skip
    refine z_iconst dX12_isUp_26 ?_
    refine z_zret dX12_isUp_27 rfl (Or.inl rfl) ?_
    first | exact k1 (fun q => absurd (ahd_iff.mp q) (by omega)) | exact k0 (ahd_iff.mpr (by omega))
  · skip
    refine z_iconst dX12_isUp_22 ?_
    refine ab_goto (tgt := 27) dX12_isUp_23 (by decide) ?_
    refine z_zret dX12_isUp_27 rfl (Or.inr rfl) ?_
    first | exact k1 (fun q => absurd (ahd_iff.mp q) (by omega)) | exact k0 (ahd_iff.mpr (by omega))
theorem lp_moves {d : Nat} {Q : ab_Q} {h0 : ab_H} {g bg : Nat → Bool} {ln : Nat → Nat} {n : Nat} {f t : Int} {o : Nat} (hx : hmx h0 g bg ln n) (hf : 0 ≤ f ∧ f ≤ 100) (ht : -100 ≤ t ∧ t ≤ 100) (ho : o ≤ 9) (hm : 0 ≤ zv h0 200 44 ∧ zv h0 200 44 ≤ 100000) (hm2 : 0 ≤ zv h0 200 45 ∧ zv h0 200 45 ≤ 100000) (k1 : glb g n (min f t) (max f t + o) = true → Q (some (.int (iI 1))) (zp (zp h0 200 44 (zv h0 200 44 + if 0 ≤ t - f then t - f else -(t - f))) 200 45 (zv h0 200 45 + if t = f then 0 else 1))) (k0 : ¬ glb g n (min f t) (max f t + o) = true → Q (some (.int (iI 0))) h0) : ∀ (nn : Nat) (y : Int) (h : ab_H), (max f t + o - y).toNat = nn → (h = h0) → (min f t ≤ y) → (y ≤ 300) → (∀ z : Int, min f t ≤ z → z < y → 0 ≤ z ∧ z < n ∧ g z.toNat = false) → ab_X (d + 1) mX12_moves 7 [(0, .ref 200), (1, .int (iI f)), (2, .int (iI t)), (3, .int (iI (o : Int))), (4, .int (iI y))] [] h Q := by
  intro nn
  induction nn using Nat.strongRecOn with
  | ind nn ih =>
  intro y h hnn hh h1 h3 hI
  subst hh
  have hn2 := hx.2.1
  have hn1 := hx.1
  refine ab_iload (k := 4) dX12_moves_7 rfl ?_
  refine ab_iload_n (k := 1) dX12_moves_9 rfl rfl ?_
  refine ab_iload_n (k := 2) dX12_moves_10 rfl rfl ?_
  refine z_mmax dX12_moves_11 lX12_414 (Nat.le_of_ble_eq_true rfl) (by omega) (by omega) ?_
  refine ab_iload_n (k := 3) dX12_moves_14 rfl rfl ?_
  refine z_iadd dX12_moves_15 ?_
  refine z_icmp_ge (tgt := 48) dX12_moves_16 (by decide) (by omega) (by omega) (fun c16 => ?_) (fun c16 => ?_)
  · skip
    refine ab_aload_n (k := 0) dX12_moves_48 rfl rfl ?_
    refine ab_dup dX12_moves_49 rfl ?_
    refine z_getI dX12_moves_50 fX12_398 rfl (Or.inl rfl) ?_
    have b1 := zv_R h 200 44
    refine ab_iload_n (k := 2) dX12_moves_53 rfl rfl ?_
    refine ab_iload_n (k := 1) dX12_moves_54 rfl rfl ?_
    refine z_isub dX12_moves_55 ?_
    refine z_mabs dX12_moves_56 lX12_416 (Nat.le_of_ble_eq_true rfl) (by omega) ?_
    refine z_iadd dX12_moves_59 ?_
    refine z_putI dX12_moves_60 fX12_398 rfl rfl ?_
    refine ab_aload_n (k := 0) dX12_moves_63 rfl rfl ?_
    refine ab_dup dX12_moves_64 rfl ?_
    refine z_getI dX12_moves_65 fX12_401 rfl (Or.inl rfl) ?_
    refine z_is (y := zv h 200 45) (zv_zp_ne (by decide)) ?_
    have b2 := zv_R h 200 45
    refine ab_iload_n (k := 2) dX12_moves_68 rfl rfl ?_
    refine ab_iload_n (k := 1) dX12_moves_69 rfl rfl ?_
    refine z_icmp_ne (tgt := 77) dX12_moves_70 (by decide) (by omega) (by omega) (fun c70 => ?_) (fun c70 => ?_)
    · skip
      refine z_iconst dX12_moves_77 ?_
      refine z_iadd dX12_moves_78 ?_
      refine z_putI dX12_moves_79 fX12_401 rfl rfl ?_
      refine z_iconst dX12_moves_82 ?_
      refine z_zret dX12_moves_83 rfl (Or.inr rfl) ?_
      first
      | (have k2 := k1 (glb_iff.mpr (fun z z1 z2 => hI z z1 (by omega)))
         rw [if_pos (show t = f by omega)] at k2
         exact k2)
      | (have k2 := k1 (glb_iff.mpr (fun z z1 z2 => hI z z1 (by omega)))
         rw [if_neg (show ¬ t = f by omega)] at k2
         exact k2)
      | (refine k0 (fun q => ?_)
         have q2 := glb_iff.mp q y h1 (by omega)
         exact gY ⟨q2.1, by omega⟩)
      | (refine k0 (fun q => ?_)
         have q2 := glb_iff.mp q y h1 (by omega)
         have := (hx.2.2.1 y.toNat (by omega)).mpr (by omega)
         rw [q2.2.2] at this; exact absurd this (by decide))
    · skip
      refine z_iconst dX12_moves_73 ?_
      refine ab_goto (tgt := 78) dX12_moves_74 (by decide) ?_
      refine z_iadd dX12_moves_78 ?_
      refine z_putI dX12_moves_79 fX12_401 rfl rfl ?_
      refine z_iconst dX12_moves_82 ?_
      refine z_zret dX12_moves_83 rfl (Or.inr rfl) ?_
      first
      | (have k2 := k1 (glb_iff.mpr (fun z z1 z2 => hI z z1 (by omega)))
         rw [if_pos (show t = f by omega)] at k2
         exact k2)
      | (have k2 := k1 (glb_iff.mpr (fun z z1 z2 => hI z z1 (by omega)))
         rw [if_neg (show ¬ t = f by omega)] at k2
         exact k2)
      | (refine k0 (fun q => ?_)
         have q2 := glb_iff.mp q y h1 (by omega)
         exact gY ⟨q2.1, by omega⟩)
      | (refine k0 (fun q => ?_)
         have q2 := glb_iff.mp q y h1 (by omega)
         have := (hx.2.2.1 y.toNat (by omega)).mpr (by omega)
         rw [q2.2.2] at this; exact absurd this (by decide))
  · skip
    refine ab_aload_n (k := 0) dX12_moves_19 rfl rfl ?_
    refine ab_iload (k := 4) dX12_moves_20 rfl ?_
    refine ab_callV (As := [.int (iI y)]) (rest := []) dX12_moves_22 lX12_302 rfl (Nat.le_of_ble_eq_true rfl) (Nat.le_of_ble_eq_true rfl) rfl ?_
    refine c_misYard (by omega) (fun g22 => ?_) (fun g22 => ?_)
    · skip
      have gY := g22
      show ab_X (d + 1) mX12_moves 25 [(0, .ref 200), (1, .int (iI f)), (2, .int (iI t)), (3, .int (iI (o : Int))), (4, .int (iI y))] [.int (iI 1)] h _
      refine z_if_eq (tgt := 40) dX12_moves_25 (by decide) (by decide) (fun c25 => absurd c25 (by decide)) (fun _ => ?_)
      refine ab_aload_n (k := 0) dX12_moves_28 rfl rfl ?_
      refine z_getP (b := 211) dX12_moves_29 fX12_55 rfl rfl rfl ?_
      refine ab_iload (k := 4) dX12_moves_32 rfl ?_
      refine z_iald dX12_moves_34 rfl (by omega) (by omega) ?_
      have b3 := zv_R h 211 y.toNat
      refine z_bipush dX12_moves_35 (by decide) ?_
      refine z_icmp_ne (tgt := 42) dX12_moves_37 (by decide) (by omega) (by decide) (fun c37 => ?_) (fun c37 => ?_)
      · skip
        refine z_iinc (k := 4) (v := y + 1) (ls' := [(4, .int (iI (y + 1))), (0, .ref 200), (1, .int (iI f)), (2, .int (iI t)), (3, .int (iI (o : Int)))]) dX12_moves_42 rfl rfl (by decide) rfl ?_
        refine ab_goto (tgt := 7) dX12_moves_45 (by decide) ?_
        refine ab_sub (ls' := [(0, .ref 200), (1, .int (iI f)), (2, .int (iI t)), (3, .int (iI (o : Int))), (4, .int (iI (y + 1)))]) (ks := [1, 2, 3, 4, 0]) rfl ?_
        refine ih _ (by omega) (y + 1) h rfl rfl (by omega) (by omega) (fun z z1 z2 => ?_)
        by_cases e : z = y
        · subst e
          refine ⟨gY.1, by omega, ?_⟩
          cases eg : g z.toNat with
          | false => rfl
          | true => have := (hx.2.2.1 z.toNat (by omega)).mp eg; omega
        · exact hI z z1 (by omega)
      · skip
        refine z_iconst dX12_moves_40 ?_
        refine z_zret dX12_moves_41 rfl (Or.inl rfl) ?_
        first
        | (have k2 := k1 (glb_iff.mpr (fun z z1 z2 => hI z z1 (by omega)))
           rw [if_pos (show t = f by omega)] at k2
           exact k2)
        | (have k2 := k1 (glb_iff.mpr (fun z z1 z2 => hI z z1 (by omega)))
           rw [if_neg (show ¬ t = f by omega)] at k2
           exact k2)
        | (refine k0 (fun q => ?_)
           have q2 := glb_iff.mp q y h1 (by omega)
           exact gY ⟨q2.1, by omega⟩)
        | (refine k0 (fun q => ?_)
           have q2 := glb_iff.mp q y h1 (by omega)
           have := (hx.2.2.1 y.toNat (by omega)).mpr (by omega)
           rw [q2.2.2] at this; exact absurd this (by decide))
    · skip
      have gY := g22
      show ab_X (d + 1) mX12_moves 25 [(0, .ref 200), (1, .int (iI f)), (2, .int (iI t)), (3, .int (iI (o : Int))), (4, .int (iI y))] [.int (iI 0)] h _
      refine z_if_eq (tgt := 40) dX12_moves_25 (by decide) (by decide) (fun _ => ?_) (fun c25 => absurd c25 (by decide))
      refine z_iconst dX12_moves_40 ?_
      refine z_zret dX12_moves_41 rfl (Or.inl rfl) ?_
      first
      | (have k2 := k1 (glb_iff.mpr (fun z z1 z2 => hI z z1 (by omega)))
         rw [if_pos (show t = f by omega)] at k2
         exact k2)
      | (have k2 := k1 (glb_iff.mpr (fun z z1 z2 => hI z z1 (by omega)))
         rw [if_neg (show ¬ t = f by omega)] at k2
         exact k2)
      | (refine k0 (fun q => ?_)
         have q2 := glb_iff.mp q y h1 (by omega)
         exact gY ⟨q2.1, by omega⟩)
      | (refine k0 (fun q => ?_)
         have q2 := glb_iff.mp q y h1 (by omega)
         have := (hx.2.2.1 y.toNat (by omega)).mpr (by omega)
         rw [q2.2.2] at this; exact absurd this (by decide))
theorem c_moves {d : Nat} {h : ab_H} {Q : ab_Q} {g bg : Nat → Bool} {ln : Nat → Nat} {n : Nat} {f t : Int} {o : Nat} (hx : hmx h g bg ln n) (hf : 0 ≤ f ∧ f ≤ 100) (ht : -100 ≤ t ∧ t ≤ 100) (ho : o ≤ 9) (hm : 0 ≤ zv h 200 44 ∧ zv h 200 44 ≤ 100000) (hm2 : 0 ≤ zv h 200 45 ∧ zv h 200 45 ≤ 100000) (k1 : glb g n (min f t) (max f t + o) = true → Q (some (.int (iI 1))) (zp (zp h 200 44 (zv h 200 44 + if 0 ≤ t - f then t - f else -(t - f))) 200 45 (zv h 200 45 + if t = f then 0 else 1))) (k0 : ¬ glb g n (min f t) (max f t + o) = true → Q (some (.int (iI 0))) h) : ab_X (d + 1) mX12_moves 0 (lv_args 0 [.ref 200, .int (iI f), .int (iI t), .int (iI (o : Int))]) [] h Q := by
  show ab_X (d + 1) mX12_moves 0 [(0, .ref 200), (1, .int (iI f)), (2, .int (iI t)), (3, .int (iI (o : Int)))] [] h Q
  refine ab_iload_n (k := 1) dX12_moves_0 rfl rfl ?_
  refine ab_iload_n (k := 2) dX12_moves_1 rfl rfl ?_
  refine z_mmin dX12_moves_2 lX12_327 (Nat.le_of_ble_eq_true rfl) (by omega) (by omega) ?_
  refine ab_istore (ls' := [(4, .int (iI (min f t))), (0, .ref 200), (1, .int (iI f)), (2, .int (iI t)), (3, .int (iI (o : Int)))]) dX12_moves_5 (by decide) rfl ?_
  refine ab_sub (ls' := [(0, .ref 200), (1, .int (iI f)), (2, .int (iI t)), (3, .int (iI (o : Int))), (4, .int (iI (min f t)))]) (ks := [1, 2, 3, 4, 0]) rfl ?_
  exact lp_moves hx hf ht ho hm hm2 k1 k0 _ _ h rfl rfl (by omega) (by omega) (fun z z1 z2 => absurd z1 (by omega))
theorem lp_getB {d : Nat} {Q : ab_Q} {h0 : ab_H} {g bg : Nat → Bool} {ln : Nat → Nat} {n : Nat} {p l : Nat} {R : Option (Int × Int)} (hx0 : hmx h0 g bg ln n) (hp : p ≤ 20 ∧ 1 ≤ l ∧ l ≤ 9) (cx : CX g bg ln n) (k1 : ∀ h', F8 h0 h' → R = some (zv h' 200 44, zv h' 200 45) → (0 ≤ zv h' 200 44 ∧ zv h' 200 44 ≤ 4000) → (0 ≤ zv h' 200 45 ∧ zv h' 200 45 ≤ 60) → ab_X (d + 2) mX12_getsIn 146 [(0, .ref 200), (1, .int (iI (l : Int))), (2, .int (iI (p : Int)))] [] h' Q) (k0 : ∀ h', F8 h0 h' → R = none → Q (some (.int (iI 0))) h') : ∀ (nn : Nat) (y : Nat) (lim : Int) (h : ab_H), y = nn → (y ≤ 20) → (F8 h0 h) → (0 ≤ lim ∧ lim ≤ 29) → (0 ≤ zv h 200 44 ∧ zv h 200 44 + 40 * y ≤ 4000) → (0 ≤ zv h 200 45 ∧ zv h 200 45 + y ≤ 60) → (∀ z, z < 20 → g z = true → z < y → (z : Int) < lim) → (pD bg (ahd ln p l) ln (glb g n) y lim (zv h 200 44) (zv h 200 45) = R) → ab_X (d + 2) mX12_getsIn 55 [(0, .ref 200), (1, .int (iI (l : Int))), (2, .int (iI (p : Int))), (3, .int (iI lim)), (4, .int (iI ((y : Int) - 1)))] [] h Q := by
  intro nn
  induction nn using Nat.strongRecOn with
  | ind nn ih =>
  intro y lim h hnn h2 hF hl hm hm3 hgi hR
  have hx := hmx_F hF hx0
  have hn2 := hx.2.1
  refine ab_iload (k := 4) dX12_getsIn_55 rfl ?_
  refine z_if_lt (tgt := 146) dX12_getsIn_57 (by decide) (by omega) (fun c57 => ?_) (fun c57 => ?_)
  · skip
    refine ab_sub (ls' := [(0, .ref 200), (1, .int (iI (l : Int))), (2, .int (iI (p : Int)))]) (ks := [0, 1, 2]) rfl ?_
    have e : y = 0 := by omega
    subst e
    exact k1 h hF hR.symm (by omega) (by omega)
  · skip
    refine ab_sub (ls' := [(0, .ref 200), (1, .int (iI (l : Int))), (2, .int (iI (p : Int))), (3, .int (iI lim)), (4, .int (iI ((y : Int) - 1)))]) (ks := [0, 1, 2, 3, 4]) rfl ?_
    obtain ⟨c, rfl⟩ : ∃ c, y = c + 1 := ⟨y - 1, by omega⟩
    have hc : c < 20 := by omega
    rw [show ((c + 1 : Nat) : Int) - 1 = (c : Int) by omega]
    refine ab_aload_n (k := 0) dX12_getsIn_60 rfl rfl ?_
    refine z_getP (b := 211) dX12_getsIn_61 fX12_55 rfl rfl rfl ?_
    refine ab_iload (k := 4) dX12_getsIn_64 rfl ?_
    refine z_iald dX12_getsIn_66 rfl (by omega) (by omega) ?_
    simp only [Int.toNat_natCast]
    have b1 := zv_R h 211 c
    refine z_bipush dX12_getsIn_67 (by decide) ?_
    refine z_icmp_eq (tgt := 146) dX12_getsIn_69 (by decide) (by omega) (by decide) (fun c69 => ?_) (fun c69 => ?_)
    · skip
      refine ab_sub (ls' := [(0, .ref 200), (1, .int (iI (l : Int))), (2, .int (iI (p : Int)))]) (ks := [0, 1, 2]) rfl ?_
      refine k1 h hF ?_ (by omega) (by omega)
      rw [← hR]
      have hgc : g c = true := (hx.2.2.1 c hc).mpr (by omega)
      have hlim := hgi c hc hgc (by omega)
      exact pD_q cx _ (by omega) _ (fun z hz hbz => by
        have h3 := cx z (by omega) hbz
        rcases Nat.lt_or_ge c (z + ln z) with r | r
        · have := h3.2.2.2.1 c (by omega) r
          rw [hgc] at this; exact absurd this (by decide)
        · omega)
    · skip
      refine ab_aload_n (k := 0) dX12_getsIn_72 rfl rfl ?_
      refine z_getP (b := 211) dX12_getsIn_73 fX12_55 rfl rfl rfl ?_
      refine ab_iload (k := 4) dX12_getsIn_76 rfl ?_
      refine z_iald dX12_getsIn_78 rfl (by omega) (by omega) ?_
      simp only [Int.toNat_natCast]
      have b2 := zv_R h 211 c
      refine ab_iload (k := 4) dX12_getsIn_79 rfl ?_
      refine z_icmp_ne (tgt := 140) dX12_getsIn_81 (by decide) (by omega) (by omega) (fun c81 => ?_) (fun c81 => ?_)
      · skip
        refine z_iinc (k := 4) (v := (c : Int) + (-1)) (ls' := [(4, .int (iI ((c : Int) + (-1)))), (0, .ref 200), (1, .int (iI (l : Int))), (2, .int (iI (p : Int))), (3, .int (iI lim))]) dX12_getsIn_140 rfl rfl (by decide) rfl ?_
        refine ab_goto (tgt := 55) dX12_getsIn_143 (by decide) ?_
        refine ab_sub (ls' := [(0, .ref 200), (1, .int (iI (l : Int))), (2, .int (iI (p : Int))), (3, .int (iI lim)), (4, .int (iI ((c : Int) + (-1))))]) (ks := [1, 2, 3, 4, 0]) rfl ?_
        first
        | (have hb : ¬ bg c = true := fun q => absurd ((hx.2.2.2.1 c hc).mp q) (by omega)
           refine ih _ (by omega) c lim h rfl (by omega) hF (by omega) (by omega) (by omega) (fun y y1 y2 y3 => hgi y y1 y2 (by omega)) ?_
           rw [← hR, pD_n (fun q => hb q.1)])
        | (refine ih _ (by omega) c lim h rfl (by omega) hF (by omega) (by omega) (by omega) (fun y y1 y2 y3 => hgi y y1 y2 (by omega)) ?_
           rw [← hR, pD_n (fun q => ga q.2)])
        | (have h0t : 0 ≤ to := by
             by_cases e : to = (c : Int)
             · omega
             · exact (glb_iff.mp gg to (by omega) (by omega)).1
           have eab : (if 0 ≤ to - (c : Int) then to - (c : Int) else -(to - (c : Int))) = (c : Int) - to := by split <;> omega
           have hit : 0 ≤ (if to = (c : Int) then (0 : Int) else 1) ∧ (if to = (c : Int) then (0 : Int) else 1) ≤ 1 := by split <;> omega
           refine ih _ (by omega) c to _ rfl (by omega) (F8_put hF) (by omega) ?_ ?_ (fun y y1 y2 y3 => ?_) ?_
           · rw [zv_zp_ne (by decide), zv_zp_s (by omega), eab]; omega
           · rw [zv_zp_s (by omega)]; omega
           · rcases Int.lt_or_le (y : Int) to with r | r
             · exact r
             · have := (glb_iff.mp gg y r (by omega)).2.2
               rw [Int.toNat_natCast, y2] at this; exact absurd this (by decide)
           · rw [← hR, pD_t (to := to) ⟨hb, ga⟩ eto gg, zv_zp_ne (by decide), zv_zp_s (by omega), zv_zp_s (by omega), eab])
      · skip
        refine ab_aload_n (k := 0) dX12_getsIn_84 rfl rfl ?_
        refine ab_iload (k := 4) dX12_getsIn_85 rfl ?_
        refine ab_iload_n (k := 1) dX12_getsIn_87 rfl rfl ?_
        refine ab_iload_n (k := 2) dX12_getsIn_88 rfl rfl ?_
        refine ab_callV (As := [.int (iI (c : Int)), .int (iI (l : Int)), .int (iI (p : Int))]) (rest := []) dX12_getsIn_89 lX12_404 rfl (Nat.le_of_ble_eq_true rfl) (Nat.le_of_ble_eq_true rfl) rfl ?_
        have hb : bg c = true := (hx.2.2.2.1 c hc).mpr (by omega)
        obtain ⟨s, hs1, hs2, hs3, hs4⟩ := hx.2.2.2.2.1 c hc hb
        refine c_isUp hx hc hb (by omega) (fun ga => ?_) (fun ga => ?_)
        · skip
          show ab_X (d + 2) mX12_getsIn 92 [(0, .ref 200), (1, .int (iI (l : Int))), (2, .int (iI (p : Int))), (3, .int (iI lim)), (4, .int (iI (c : Int)))] [.int (iI 1)] h _
          refine z_if_eq (tgt := 98) dX12_getsIn_92 (by decide) (by decide) (fun c92 => absurd c92 (by decide)) (fun _ => ?_)
          refine ab_goto (tgt := 140) dX12_getsIn_95 (by decide) ?_
          refine z_iinc (k := 4) (v := (c : Int) + (-1)) (ls' := [(4, .int (iI ((c : Int) + (-1)))), (0, .ref 200), (1, .int (iI (l : Int))), (2, .int (iI (p : Int))), (3, .int (iI lim))]) dX12_getsIn_140 rfl rfl (by decide) rfl ?_
          refine ab_goto (tgt := 55) dX12_getsIn_143 (by decide) ?_
          refine ab_sub (ls' := [(0, .ref 200), (1, .int (iI (l : Int))), (2, .int (iI (p : Int))), (3, .int (iI lim)), (4, .int (iI ((c : Int) + (-1))))]) (ks := [1, 2, 3, 4, 0]) rfl ?_
          first
          | (have hb : ¬ bg c = true := fun q => absurd ((hx.2.2.2.1 c hc).mp q) (by omega)
             refine ih _ (by omega) c lim h rfl (by omega) hF (by omega) (by omega) (by omega) (fun y y1 y2 y3 => hgi y y1 y2 (by omega)) ?_
             rw [← hR, pD_n (fun q => hb q.1)])
          | (refine ih _ (by omega) c lim h rfl (by omega) hF (by omega) (by omega) (by omega) (fun y y1 y2 y3 => hgi y y1 y2 (by omega)) ?_
             rw [← hR, pD_n (fun q => ga q.2)])
          | (have h0t : 0 ≤ to := by
               by_cases e : to = (c : Int)
               · omega
               · exact (glb_iff.mp gg to (by omega) (by omega)).1
             have eab : (if 0 ≤ to - (c : Int) then to - (c : Int) else -(to - (c : Int))) = (c : Int) - to := by split <;> omega
             have hit : 0 ≤ (if to = (c : Int) then (0 : Int) else 1) ∧ (if to = (c : Int) then (0 : Int) else 1) ≤ 1 := by split <;> omega
             refine ih _ (by omega) c to _ rfl (by omega) (F8_put hF) (by omega) ?_ ?_ (fun y y1 y2 y3 => ?_) ?_
             · rw [zv_zp_ne (by decide), zv_zp_s (by omega), eab]; omega
             · rw [zv_zp_s (by omega)]; omega
             · rcases Int.lt_or_le (y : Int) to with r | r
               · exact r
               · have := (glb_iff.mp gg y r (by omega)).2.2
                 rw [Int.toNat_natCast, y2] at this; exact absurd this (by decide)
             · rw [← hR, pD_t (to := to) ⟨hb, ga⟩ eto gg, zv_zp_ne (by decide), zv_zp_s (by omega), zv_zp_s (by omega), eab])
        · skip
          show ab_X (d + 2) mX12_getsIn 92 [(0, .ref 200), (1, .int (iI (l : Int))), (2, .int (iI (p : Int))), (3, .int (iI lim)), (4, .int (iI (c : Int)))] [.int (iI 0)] h _
          refine z_if_eq (tgt := 98) dX12_getsIn_92 (by decide) (by decide) (fun _ => ?_) (fun c92 => absurd c92 (by decide))
          refine ab_aload_n (k := 0) dX12_getsIn_98 rfl rfl ?_
          refine ab_aload_n (k := 0) dX12_getsIn_99 rfl rfl ?_
          refine z_getP (b := 212) dX12_getsIn_100 fX12_58 rfl rfl rfl ?_
          refine ab_iload (k := 4) dX12_getsIn_103 rfl ?_
          refine z_iald dX12_getsIn_105 rfl (by omega) (by omega) ?_
          simp only [Int.toNat_natCast]
          refine z_is (y := (s : Int)) hs2 ?_
          refine ab_callV (As := [.int (iI (s : Int))]) (rest := []) dX12_getsIn_106 lX12_312 rfl (Nat.le_of_ble_eq_true rfl) (Nat.le_of_ble_eq_true rfl) rfl ?_
          refine c_mlengthOf (by omega) ?_
          rw [show zv h 207 (2 * ((s : Nat) : Int).toNat) = (ln c : Int) from hs3]
          show ab_X (d + 2) mX12_getsIn 109 [(0, .ref 200), (1, .int (iI (l : Int))), (2, .int (iI (p : Int))), (3, .int (iI lim)), (4, .int (iI (c : Int)))] [.int (iI (ln c : Int))] h _
          refine ab_istore (ls' := [(5, .int (iI (ln c : Int))), (0, .ref 200), (1, .int (iI (l : Int))), (2, .int (iI (p : Int))), (3, .int (iI lim)), (4, .int (iI (c : Int)))]) dX12_getsIn_109 (by decide) rfl ?_
          refine ab_iload (k := 5) dX12_getsIn_111 rfl ?_
          refine ab_iload_n (k := 4) dX12_getsIn_113 rfl rfl ?_
          refine ab_iload (k := 0) dX12_getsIn_114 rfl ?_
          refine z_isub dX12_getsIn_116 ?_
          refine z_mmin dX12_getsIn_117 lX12_327 (Nat.le_of_ble_eq_true rfl) (by omega) (by omega) ?_
          obtain ⟨to, eto⟩ : ∃ z : Int, z = min (c : Int) (lim - (ln c : Int)) := ⟨_, rfl⟩
          rw [← eto]
          refine ab_istore (ls' := [(6, .int (iI to)), (5, .int (iI (ln c : Int))), (0, .ref 200), (1, .int (iI (l : Int))), (2, .int (iI (p : Int))), (3, .int (iI lim)), (4, .int (iI (c : Int)))]) dX12_getsIn_120 (by decide) rfl ?_
          refine ab_aload_n (k := 2) dX12_getsIn_122 rfl rfl ?_
          refine ab_iload (k := 6) dX12_getsIn_123 rfl ?_
          refine ab_iload (k := 0) dX12_getsIn_125 rfl ?_
          refine ab_iload (k := 1) dX12_getsIn_127 rfl ?_
          refine ab_callV (As := [.int (iI (c : Int)), .int (iI to), .int (iI (ln c : Int))]) (rest := []) dX12_getsIn_129 lX12_408 rfl (Nat.le_of_ble_eq_true rfl) (Nat.le_of_ble_eq_true rfl) rfl ?_
          refine c_moves (f := (c : Int)) (t := to) (o := ln c) hx (by omega) (by omega) hs4 (by omega) (by omega) (fun gg => ?_) (fun gg => ?_)
          · skip
            rw [show min (c : Int) to = to by omega, show max (c : Int) to = (c : Int) by omega] at gg
            replace gg := (glb_own cx hc hb).mp gg
            show ab_X (d + 2) mX12_getsIn 132 [(6, .int (iI to)), (5, .int (iI (ln c : Int))), (0, .ref 200), (1, .int (iI (l : Int))), (2, .int (iI (p : Int))), (3, .int (iI lim)), (4, .int (iI (c : Int)))] [.int (iI 1)] (zp (zp h 200 44 (zv h 200 44 + if 0 ≤ to - (c : Int) then to - (c : Int) else -(to - (c : Int)))) 200 45 (zv h 200 45 + if to = (c : Int) then 0 else 1)) _
            refine z_if_ne (tgt := 137) dX12_getsIn_132 (by decide) (by decide) (fun _ => ?_) (fun c132 => absurd c132 (by decide))
            refine ab_iload (k := 0) dX12_getsIn_137 rfl ?_
            refine ab_istore_n (ls' := [(3, .int (iI to)), (6, .int (iI to)), (5, .int (iI (ln c : Int))), (0, .ref 200), (1, .int (iI (l : Int))), (2, .int (iI (p : Int))), (4, .int (iI (c : Int)))]) dX12_getsIn_139 rfl (by decide) rfl ?_
            refine z_iinc (k := 6) (v := (c : Int) + (-1)) (ls' := [(4, .int (iI ((c : Int) + (-1)))), (3, .int (iI to)), (6, .int (iI to)), (5, .int (iI (ln c : Int))), (0, .ref 200), (1, .int (iI (l : Int))), (2, .int (iI (p : Int)))]) dX12_getsIn_140 rfl rfl (by decide) rfl ?_
            refine ab_goto (tgt := 55) dX12_getsIn_143 (by decide) ?_
            refine ab_sub (ls' := [(0, .ref 200), (1, .int (iI (l : Int))), (2, .int (iI (p : Int))), (3, .int (iI to)), (4, .int (iI ((c : Int) + (-1))))]) (ks := [4, 5, 6, 1, 0]) rfl ?_
            first
            | (have hb : ¬ bg c = true := fun q => absurd ((hx.2.2.2.1 c hc).mp q) (by omega)
               refine ih _ (by omega) c lim h rfl (by omega) hF (by omega) (by omega) (by omega) (fun y y1 y2 y3 => hgi y y1 y2 (by omega)) ?_
               rw [← hR, pD_n (fun q => hb q.1)])
            | (refine ih _ (by omega) c lim h rfl (by omega) hF (by omega) (by omega) (by omega) (fun y y1 y2 y3 => hgi y y1 y2 (by omega)) ?_
               rw [← hR, pD_n (fun q => ga q.2)])
            | (have h0t : 0 ≤ to := by
                 by_cases e : to = (c : Int)
                 · omega
                 · exact (glb_iff.mp gg to (by omega) (by omega)).1
               have eab : (if 0 ≤ to - (c : Int) then to - (c : Int) else -(to - (c : Int))) = (c : Int) - to := by split <;> omega
               have hit : 0 ≤ (if to = (c : Int) then (0 : Int) else 1) ∧ (if to = (c : Int) then (0 : Int) else 1) ≤ 1 := by split <;> omega
               refine ih _ (by omega) c to _ rfl (by omega) (F8_put hF) (by omega) ?_ ?_ (fun y y1 y2 y3 => ?_) ?_
               · rw [zv_zp_ne (by decide), zv_zp_s (by omega), eab]; omega
               · rw [zv_zp_s (by omega)]; omega
               · rcases Int.lt_or_le (y : Int) to with r | r
                 · exact r
                 · have := (glb_iff.mp gg y r (by omega)).2.2
                   rw [Int.toNat_natCast, y2] at this; exact absurd this (by decide)
               · rw [← hR, pD_t (to := to) ⟨hb, ga⟩ eto gg, zv_zp_ne (by decide), zv_zp_s (by omega), zv_zp_s (by omega), eab])
          · skip
            rw [show min (c : Int) to = to by omega, show max (c : Int) to = (c : Int) by omega] at gg
            replace gg : ¬ glb g n to c = true := fun q => gg ((glb_own cx hc hb).mpr q)
            show ab_X (d + 2) mX12_getsIn 132 [(6, .int (iI to)), (5, .int (iI (ln c : Int))), (0, .ref 200), (1, .int (iI (l : Int))), (2, .int (iI (p : Int))), (3, .int (iI lim)), (4, .int (iI (c : Int)))] [.int (iI 0)] h _
            refine z_if_ne (tgt := 137) dX12_getsIn_132 (by decide) (by decide) (fun c132 => absurd c132 (by decide)) (fun _ => ?_)
            refine z_iconst dX12_getsIn_135 ?_
            refine z_zret dX12_getsIn_136 rfl (Or.inl rfl) ?_
            refine k0 h hF ?_
            rw [← hR, pD_f ⟨hb, ga⟩ (by rw [← eto]; exact gg)]
theorem lp_getC {d : Nat} {Q : ab_Q} {h0 : ab_H} {g bg : Nat → Bool} {ln : Nat → Nat} {n : Nat} {p l : Nat} {R : Option (Int × Int)} (hx0 : hmx h0 g bg ln n) (hp : p ≤ 20 ∧ 1 ≤ l ∧ l ≤ 9) (cx : CX g bg ln n) (k1 : ∀ h', F8 h0 h' → R = some (zv h' 200 44, zv h' 200 45) → Q (some (.int (iI 1))) h') (k0 : ∀ h', F8 h0 h' → R = none → Q (some (.int (iI 0))) h') : ∀ (nn : Nat) (c : Nat) (lim : Int) (h : ab_H), n - c = nn → (c ≤ n) → (F8 h0 h) → (0 ≤ lim ∧ lim ≤ 29) → (0 ≤ zv h 200 44 ∧ zv h 200 44 + 40 * (n - c : Nat) ≤ 8000) → (0 ≤ zv h 200 45 ∧ zv h 200 45 + (n - c : Nat) ≤ 100) → (∀ z, z < 20 → g z = true → c ≤ z → lim ≤ (z : Int)) → (pU2 bg (ahd ln p l) ln (glb g n) n (n - c) lim (zv h 200 44) (zv h 200 45) = R) → ab_X (d + 2) mX12_getsIn 157 [(0, .ref 200), (1, .int (iI (l : Int))), (2, .int (iI (p : Int))), (3, .int (iI lim)), (4, .int (iI (c : Int)))] [] h Q := by
  intro nn
  induction nn using Nat.strongRecOn with
  | ind nn ih =>
  intro c lim h hnn h2 hF hl hm hm3 hgi hR
  have hx := hmx_F hF hx0
  have hn2 := hx.2.1
  refine ab_iload (k := 4) dX12_getsIn_157 rfl ?_
  refine ab_aload_n (k := 0) dX12_getsIn_159 rfl rfl ?_
  refine z_getI dX12_getsIn_160 fX12_290 rfl (Or.inl rfl) ?_
  refine z_is (y := (n : Int)) hx.1 ?_
  refine z_icmp_ge (tgt := 252) dX12_getsIn_163 (by decide) (by omega) (by omega) (fun c163 => ?_) (fun c163 => ?_)
  · skip
    refine z_iconst dX12_getsIn_252 ?_
    refine z_zret dX12_getsIn_253 rfl (Or.inr rfl) ?_
    first
    | (have e : c = n := by omega
       subst e
       rw [Nat.sub_self] at hR
       exact k1 h hF hR.symm)
    | (have hgc : g c = true := (hx.2.2.1 c hc).mpr (by omega)
       refine k1 h hF ?_
       rw [← hR]
       have hlim := hgi c hc hgc (by omega)
       exact pU2_q hn2 cx _ (by omega) _ (fun z hz hz2 hbz => by omega))
    | (refine k0 h hF ?_
       rw [← hR, pU2_f (by omega) ⟨hb, ga⟩ (by rw [← eto]; exact gg)])
  · skip
    have hc : c < 20 := by omega
    refine ab_aload_n (k := 0) dX12_getsIn_166 rfl rfl ?_
    refine z_getP (b := 211) dX12_getsIn_167 fX12_55 rfl rfl rfl ?_
    refine ab_iload (k := 4) dX12_getsIn_170 rfl ?_
    refine z_iald dX12_getsIn_172 rfl (by omega) (by omega) ?_
    simp only [Int.toNat_natCast]
    have b1 := zv_R h 211 c
    refine z_bipush dX12_getsIn_173 (by decide) ?_
    refine z_icmp_eq (tgt := 252) dX12_getsIn_175 (by decide) (by omega) (by decide) (fun c175 => ?_) (fun c175 => ?_)
    · skip
      refine z_iconst dX12_getsIn_252 ?_
      refine z_zret dX12_getsIn_253 rfl (Or.inr rfl) ?_
      first
      | (have e : c = n := by omega
         subst e
         rw [Nat.sub_self] at hR
         exact k1 h hF hR.symm)
      | (have hgc : g c = true := (hx.2.2.1 c hc).mpr (by omega)
         refine k1 h hF ?_
         rw [← hR]
         have hlim := hgi c hc hgc (by omega)
         exact pU2_q hn2 cx _ (by omega) _ (fun z hz hz2 hbz => by omega))
      | (refine k0 h hF ?_
         rw [← hR, pU2_f (by omega) ⟨hb, ga⟩ (by rw [← eto]; exact gg)])
    · skip
      refine ab_aload_n (k := 0) dX12_getsIn_178 rfl rfl ?_
      refine z_getP (b := 211) dX12_getsIn_179 fX12_55 rfl rfl rfl ?_
      refine ab_iload (k := 4) dX12_getsIn_182 rfl ?_
      refine z_iald dX12_getsIn_184 rfl (by omega) (by omega) ?_
      simp only [Int.toNat_natCast]
      have b2 := zv_R h 211 c
      refine ab_iload (k := 4) dX12_getsIn_185 rfl ?_
      refine z_icmp_ne (tgt := 246) dX12_getsIn_187 (by decide) (by omega) (by omega) (fun c187 => ?_) (fun c187 => ?_)
      · skip
        refine z_iinc (k := 4) (v := (c : Int) + 1) (ls' := [(4, .int (iI ((c : Int) + 1))), (0, .ref 200), (1, .int (iI (l : Int))), (2, .int (iI (p : Int))), (3, .int (iI lim))]) dX12_getsIn_246 rfl rfl (by decide) rfl ?_
        refine ab_goto (tgt := 157) dX12_getsIn_249 (by decide) ?_
        refine ab_sub (ls' := [(0, .ref 200), (1, .int (iI (l : Int))), (2, .int (iI (p : Int))), (3, .int (iI lim)), (4, .int (iI ((c : Int) + 1)))]) (ks := [1, 2, 3, 4, 0]) rfl ?_
        first
        | (have hb : ¬ bg c = true := fun q => absurd ((hx.2.2.2.1 c hc).mp q) (by omega)
           refine ih _ (by omega) (c + 1) lim h rfl (by omega) hF (by omega) (by omega) (by omega) (fun y y1 y2 y3 => hgi y y1 y2 (by omega)) ?_
           rw [← hR, pU2_n (by omega) (fun q => hb q.1)])
        | (refine ih _ (by omega) (c + 1) lim h rfl (by omega) hF (by omega) (by omega) (by omega) (fun y y1 y2 y3 => hgi y y1 y2 (by omega)) ?_
           rw [← hR, pU2_n (by omega) (fun q => q.2 ga)])
        | (have hcx := cx c hc hb
           have h0t : to + (ln c : Int) ≤ 20 := by
             by_cases e : to = (c : Int)
             · omega
             · have := glb_iff.mp gg (to + (ln c : Int) - 1) (by omega) (by omega); omega
           have eab : (if 0 ≤ to - (c : Int) then to - (c : Int) else -(to - (c : Int))) = to - (c : Int) := by split <;> omega
           have hit : 0 ≤ (if to = (c : Int) then (0 : Int) else 1) ∧ (if to = (c : Int) then (0 : Int) else 1) ≤ 1 := by split <;> omega
           refine ih _ (by omega) (c + 1) _ _ rfl (by omega) (F8_put hF) (by omega) ?_ ?_ (fun y y1 y2 y3 => ?_) ?_
           · rw [zv_zp_ne (by decide), zv_zp_s (by omega), eab]; omega
           · rw [zv_zp_s (by omega)]; omega
           · rcases Int.lt_or_le (y : Int) (to + ln c) with r | r
             · rcases Nat.lt_or_ge y (c + ln c) with r2 | r2
               · have := hcx.2.2.2.1 y (by omega) r2
                 rw [y2] at this; exact absurd this (by decide)
               · have := (glb_iff.mp gg y (by omega) r).2.2
                 rw [Int.toNat_natCast, y2] at this; exact absurd this (by decide)
             · exact r
           · rw [← hR, pU2_t (to := to) (by omega) ⟨hb, ga⟩ eto gg, zv_zp_ne (by decide), zv_zp_s (by omega), zv_zp_s (by omega), eab])
      · skip
        refine ab_aload_n (k := 0) dX12_getsIn_190 rfl rfl ?_
        refine ab_iload (k := 4) dX12_getsIn_191 rfl ?_
        refine ab_iload_n (k := 1) dX12_getsIn_193 rfl rfl ?_
        refine ab_iload_n (k := 2) dX12_getsIn_194 rfl rfl ?_
        refine ab_callV (As := [.int (iI (c : Int)), .int (iI (l : Int)), .int (iI (p : Int))]) (rest := []) dX12_getsIn_195 lX12_404 rfl (Nat.le_of_ble_eq_true rfl) (Nat.le_of_ble_eq_true rfl) rfl ?_
        have hb : bg c = true := (hx.2.2.2.1 c hc).mpr (by omega)
        obtain ⟨s, hs1, hs2, hs3, hs4⟩ := hx.2.2.2.2.1 c hc hb
        refine c_isUp hx hc hb (by omega) (fun ga => ?_) (fun ga => ?_)
        · skip
          show ab_X (d + 2) mX12_getsIn 198 [(0, .ref 200), (1, .int (iI (l : Int))), (2, .int (iI (p : Int))), (3, .int (iI lim)), (4, .int (iI (c : Int)))] [.int (iI 1)] h _
          refine z_if_ne (tgt := 204) dX12_getsIn_198 (by decide) (by decide) (fun _ => ?_) (fun c198 => absurd c198 (by decide))
          refine ab_aload_n (k := 0) dX12_getsIn_204 rfl rfl ?_
          refine ab_aload_n (k := 0) dX12_getsIn_205 rfl rfl ?_
          refine z_getP (b := 212) dX12_getsIn_206 fX12_58 rfl rfl rfl ?_
          refine ab_iload (k := 4) dX12_getsIn_209 rfl ?_
          refine z_iald dX12_getsIn_211 rfl (by omega) (by omega) ?_
          simp only [Int.toNat_natCast]
          refine z_is (y := (s : Int)) hs2 ?_
          refine ab_callV (As := [.int (iI (s : Int))]) (rest := []) dX12_getsIn_212 lX12_312 rfl (Nat.le_of_ble_eq_true rfl) (Nat.le_of_ble_eq_true rfl) rfl ?_
          refine c_mlengthOf (by omega) ?_
          rw [show zv h 207 (2 * ((s : Nat) : Int).toNat) = (ln c : Int) from hs3]
          show ab_X (d + 2) mX12_getsIn 215 [(0, .ref 200), (1, .int (iI (l : Int))), (2, .int (iI (p : Int))), (3, .int (iI lim)), (4, .int (iI (c : Int)))] [.int (iI (ln c : Int))] h _
          refine ab_istore (ls' := [(5, .int (iI (ln c : Int))), (0, .ref 200), (1, .int (iI (l : Int))), (2, .int (iI (p : Int))), (3, .int (iI lim)), (4, .int (iI (c : Int)))]) dX12_getsIn_215 (by decide) rfl ?_
          refine ab_iload (k := 5) dX12_getsIn_217 rfl ?_
          refine ab_iload_n (k := 4) dX12_getsIn_219 rfl rfl ?_
          refine z_mmax dX12_getsIn_220 lX12_414 (Nat.le_of_ble_eq_true rfl) (by omega) (by omega) ?_
          obtain ⟨to, eto⟩ : ∃ z : Int, z = max (c : Int) lim := ⟨_, rfl⟩
          rw [← eto]
          refine ab_istore (ls' := [(6, .int (iI to)), (5, .int (iI (ln c : Int))), (0, .ref 200), (1, .int (iI (l : Int))), (2, .int (iI (p : Int))), (3, .int (iI lim)), (4, .int (iI (c : Int)))]) dX12_getsIn_223 (by decide) rfl ?_
          refine ab_aload_n (k := 2) dX12_getsIn_225 rfl rfl ?_
          refine ab_iload (k := 6) dX12_getsIn_226 rfl ?_
          refine ab_iload (k := 0) dX12_getsIn_228 rfl ?_
          refine ab_iload (k := 1) dX12_getsIn_230 rfl ?_
          refine ab_callV (As := [.int (iI (c : Int)), .int (iI to), .int (iI (ln c : Int))]) (rest := []) dX12_getsIn_232 lX12_408 rfl (Nat.le_of_ble_eq_true rfl) (Nat.le_of_ble_eq_true rfl) rfl ?_
          refine c_moves (f := (c : Int)) (t := to) (o := ln c) hx (by omega) (by omega) hs4 (by omega) (by omega) (fun gg => ?_) (fun gg => ?_)
          · skip
            rw [show min (c : Int) to = (c : Int) by omega, show max (c : Int) to = to by omega] at gg
            replace gg := (glb_own2 cx hc hb).mp gg
            show ab_X (d + 2) mX12_getsIn 235 [(6, .int (iI to)), (5, .int (iI (ln c : Int))), (0, .ref 200), (1, .int (iI (l : Int))), (2, .int (iI (p : Int))), (3, .int (iI lim)), (4, .int (iI (c : Int)))] [.int (iI 1)] (zp (zp h 200 44 (zv h 200 44 + if 0 ≤ to - (c : Int) then to - (c : Int) else -(to - (c : Int)))) 200 45 (zv h 200 45 + if to = (c : Int) then 0 else 1)) _
            refine z_if_ne (tgt := 240) dX12_getsIn_235 (by decide) (by decide) (fun _ => ?_) (fun c235 => absurd c235 (by decide))
            refine ab_iload (k := 0) dX12_getsIn_240 rfl ?_
            refine ab_iload (k := 1) dX12_getsIn_242 rfl ?_
            refine z_iadd dX12_getsIn_244 ?_
            refine ab_istore_n (ls' := [(3, .int (iI (to + (ln c : Int)))), (6, .int (iI to)), (5, .int (iI (ln c : Int))), (0, .ref 200), (1, .int (iI (l : Int))), (2, .int (iI (p : Int))), (4, .int (iI (c : Int)))]) dX12_getsIn_245 rfl (by decide) rfl ?_
            refine z_iinc (k := 6) (v := (c : Int) + 1) (ls' := [(4, .int (iI ((c : Int) + 1))), (3, .int (iI (to + (ln c : Int)))), (6, .int (iI to)), (5, .int (iI (ln c : Int))), (0, .ref 200), (1, .int (iI (l : Int))), (2, .int (iI (p : Int)))]) dX12_getsIn_246 rfl rfl (by decide) rfl ?_
            refine ab_goto (tgt := 157) dX12_getsIn_249 (by decide) ?_
            refine ab_sub (ls' := [(0, .ref 200), (1, .int (iI (l : Int))), (2, .int (iI (p : Int))), (3, .int (iI (to + (ln c : Int)))), (4, .int (iI ((c : Int) + 1)))]) (ks := [4, 5, 6, 1, 0]) rfl ?_
            first
            | (have hb : ¬ bg c = true := fun q => absurd ((hx.2.2.2.1 c hc).mp q) (by omega)
               refine ih _ (by omega) (c + 1) lim h rfl (by omega) hF (by omega) (by omega) (by omega) (fun y y1 y2 y3 => hgi y y1 y2 (by omega)) ?_
               rw [← hR, pU2_n (by omega) (fun q => hb q.1)])
            | (refine ih _ (by omega) (c + 1) lim h rfl (by omega) hF (by omega) (by omega) (by omega) (fun y y1 y2 y3 => hgi y y1 y2 (by omega)) ?_
               rw [← hR, pU2_n (by omega) (fun q => q.2 ga)])
            | (have hcx := cx c hc hb
               have h0t : to + (ln c : Int) ≤ 20 := by
                 by_cases e : to = (c : Int)
                 · omega
                 · have := glb_iff.mp gg (to + (ln c : Int) - 1) (by omega) (by omega); omega
               have eab : (if 0 ≤ to - (c : Int) then to - (c : Int) else -(to - (c : Int))) = to - (c : Int) := by split <;> omega
               have hit : 0 ≤ (if to = (c : Int) then (0 : Int) else 1) ∧ (if to = (c : Int) then (0 : Int) else 1) ≤ 1 := by split <;> omega
               refine ih _ (by omega) (c + 1) _ _ rfl (by omega) (F8_put hF) (by omega) ?_ ?_ (fun y y1 y2 y3 => ?_) ?_
               · rw [zv_zp_ne (by decide), zv_zp_s (by omega), eab]; omega
               · rw [zv_zp_s (by omega)]; omega
               · rcases Int.lt_or_le (y : Int) (to + ln c) with r | r
                 · rcases Nat.lt_or_ge y (c + ln c) with r2 | r2
                   · have := hcx.2.2.2.1 y (by omega) r2
                     rw [y2] at this; exact absurd this (by decide)
                   · have := (glb_iff.mp gg y (by omega) r).2.2
                     rw [Int.toNat_natCast, y2] at this; exact absurd this (by decide)
                 · exact r
               · rw [← hR, pU2_t (to := to) (by omega) ⟨hb, ga⟩ eto gg, zv_zp_ne (by decide), zv_zp_s (by omega), zv_zp_s (by omega), eab])
          · skip
            rw [show min (c : Int) to = (c : Int) by omega, show max (c : Int) to = to by omega] at gg
            replace gg : ¬ glb g n ((c : Int) + ln c) (to + ln c) = true := fun q => gg ((glb_own2 cx hc hb).mpr q)
            show ab_X (d + 2) mX12_getsIn 235 [(6, .int (iI to)), (5, .int (iI (ln c : Int))), (0, .ref 200), (1, .int (iI (l : Int))), (2, .int (iI (p : Int))), (3, .int (iI lim)), (4, .int (iI (c : Int)))] [.int (iI 0)] h _
            refine z_if_ne (tgt := 240) dX12_getsIn_235 (by decide) (by decide) (fun c235 => absurd c235 (by decide)) (fun _ => ?_)
            refine z_iconst dX12_getsIn_238 ?_
            refine z_zret dX12_getsIn_239 rfl (Or.inl rfl) ?_
            first
            | (have e : c = n := by omega
               subst e
               rw [Nat.sub_self] at hR
               exact k1 h hF hR.symm)
            | (have hgc : g c = true := (hx.2.2.1 c hc).mpr (by omega)
               refine k1 h hF ?_
               rw [← hR]
               have hlim := hgi c hc hgc (by omega)
               exact pU2_q hn2 cx _ (by omega) _ (fun z hz hz2 hbz => by omega))
            | (refine k0 h hF ?_
               rw [← hR, pU2_f (by omega) ⟨hb, ga⟩ (by rw [← eto]; exact gg)])
        · skip
          show ab_X (d + 2) mX12_getsIn 198 [(0, .ref 200), (1, .int (iI (l : Int))), (2, .int (iI (p : Int))), (3, .int (iI lim)), (4, .int (iI (c : Int)))] [.int (iI 0)] h _
          refine z_if_ne (tgt := 204) dX12_getsIn_198 (by decide) (by decide) (fun c198 => absurd c198 (by decide)) (fun _ => ?_)
          refine ab_goto (tgt := 246) dX12_getsIn_201 (by decide) ?_
          refine z_iinc (k := 4) (v := (c : Int) + 1) (ls' := [(4, .int (iI ((c : Int) + 1))), (0, .ref 200), (1, .int (iI (l : Int))), (2, .int (iI (p : Int))), (3, .int (iI lim))]) dX12_getsIn_246 rfl rfl (by decide) rfl ?_
          refine ab_goto (tgt := 157) dX12_getsIn_249 (by decide) ?_
          refine ab_sub (ls' := [(0, .ref 200), (1, .int (iI (l : Int))), (2, .int (iI (p : Int))), (3, .int (iI lim)), (4, .int (iI ((c : Int) + 1)))]) (ks := [1, 2, 3, 4, 0]) rfl ?_
          first
          | (have hb : ¬ bg c = true := fun q => absurd ((hx.2.2.2.1 c hc).mp q) (by omega)
             refine ih _ (by omega) (c + 1) lim h rfl (by omega) hF (by omega) (by omega) (by omega) (fun y y1 y2 y3 => hgi y y1 y2 (by omega)) ?_
             rw [← hR, pU2_n (by omega) (fun q => hb q.1)])
          | (refine ih _ (by omega) (c + 1) lim h rfl (by omega) hF (by omega) (by omega) (by omega) (fun y y1 y2 y3 => hgi y y1 y2 (by omega)) ?_
             rw [← hR, pU2_n (by omega) (fun q => q.2 ga)])
          | (have hcx := cx c hc hb
             have h0t : to + (ln c : Int) ≤ 20 := by
               by_cases e : to = (c : Int)
               · omega
               · have := glb_iff.mp gg (to + (ln c : Int) - 1) (by omega) (by omega); omega
             have eab : (if 0 ≤ to - (c : Int) then to - (c : Int) else -(to - (c : Int))) = to - (c : Int) := by split <;> omega
             have hit : 0 ≤ (if to = (c : Int) then (0 : Int) else 1) ∧ (if to = (c : Int) then (0 : Int) else 1) ≤ 1 := by split <;> omega
             refine ih _ (by omega) (c + 1) _ _ rfl (by omega) (F8_put hF) (by omega) ?_ ?_ (fun y y1 y2 y3 => ?_) ?_
             · rw [zv_zp_ne (by decide), zv_zp_s (by omega), eab]; omega
             · rw [zv_zp_s (by omega)]; omega
             · rcases Int.lt_or_le (y : Int) (to + ln c) with r | r
               · rcases Nat.lt_or_ge y (c + ln c) with r2 | r2
                 · have := hcx.2.2.2.1 y (by omega) r2
                   rw [y2] at this; exact absurd this (by decide)
                 · have := (glb_iff.mp gg y (by omega) r).2.2
                   rw [Int.toNat_natCast, y2] at this; exact absurd this (by decide)
               · exact r
             · rw [← hR, pU2_t (to := to) (by omega) ⟨hb, ga⟩ eto gg, zv_zp_ne (by decide), zv_zp_s (by omega), zv_zp_s (by omega), eab])
theorem first_ok {h : ab_H} {g bg : Nat → Bool} {ln : Nat → Nat} {n p : Nat} (hx : hmx h g bg ln n) (cx : CX g bg ln n) (hp : p < 20) : ∃ f : Nat, (f : Int) = (if 0 ≤ zv h 211 p then zv h 211 p else (p : Int)) ∧ f ≤ p ∧ (∀ c, c < f → bg c = true → c + ln c ≤ p) ∧ ∀ y, f ≤ y → y < p → g y = false := by
  by_cases q : 0 ≤ zv h 211 p
  · obtain ⟨c, c1, c2, c3, c4, c5⟩ := hx.2.2.2.2.2.1 p hp q
    refine ⟨c, by rw [if_pos q, c1], c4, fun z hz hb => ?_, fun y y1 y2 => (cx c c2 c3).2.2.2.1 y y1 (by omega)⟩
    have := (cx c c2 c3).2.2.2.2 z (by omega) hb hz
    omega
  · refine ⟨p, by rw [if_neg q], Nat.le_refl p, fun z hz hb => ?_, fun y y1 y2 => absurd y1 (by omega)⟩
    rcases Nat.lt_or_ge p (z + ln z) with r | r
    · -- the car at z covers p
      exfalso
      have := hx.2.2.2.2.2.2 z (by omega) hb p (by omega) r
      omega
    · exact r
theorem c_firstOf {d : Nat} {h : ab_H} {Q : ab_Q} {p f : Nat} (hp : p < 20) (hf : (f : Int) = if 0 ≤ zv h 211 p then zv h 211 p else (p : Int)) (K : Q (some (.int (iI (f : Int)))) h) : ab_X d mX12_firstOf 0 (lv_args 0 [.ref 200, .int (iI (p : Int))]) [] h Q := by
  show ab_X d mX12_firstOf 0 [(0, .ref 200), (1, .int (iI (p : Int)))] [] h Q
  refine ab_aload_n (k := 0) dX12_firstOf_0 rfl rfl ?_
  refine z_getP (b := 211) dX12_firstOf_1 fX12_55 rfl rfl rfl ?_
  refine ab_iload_n (k := 1) dX12_firstOf_4 rfl rfl ?_
  refine z_iald dX12_firstOf_5 rfl (by omega) (by omega) ?_
  simp only [Int.toNat_natCast]
  have b1 := zv_R h 211 p
  refine z_if_lt (tgt := 18) dX12_firstOf_6 (by decide) (by omega) (fun c6 => ?_) (fun c6 => ?_)
  · skip
    refine ab_iload_n (k := 1) dX12_firstOf_18 rfl rfl ?_
    refine z_iret dX12_firstOf_19 rfl ?_
    first | (rw [if_pos (by omega)] at hf; rw [← hf]; exact K) | (rw [if_neg (by omega)] at hf; rw [← hf]; exact K)
  · skip
    refine ab_aload_n (k := 0) dX12_firstOf_9 rfl rfl ?_
    refine z_getP (b := 211) dX12_firstOf_10 fX12_55 rfl rfl rfl ?_
    refine ab_iload_n (k := 1) dX12_firstOf_13 rfl rfl ?_
    refine z_iald dX12_firstOf_14 rfl (by omega) (by omega) ?_
    simp only [Int.toNat_natCast]
    have b2 := zv_R h 211 p
    refine ab_goto (tgt := 19) dX12_firstOf_15 (by decide) ?_
    refine z_iret dX12_firstOf_19 rfl ?_
    first | (rw [if_pos (by omega)] at hf; rw [← hf]; exact K) | (rw [if_neg (by omega)] at hf; rw [← hf]; exact K)
theorem up_first {ln : Nat → Nat} {p l z : Nat} (hl : 1 ≤ l) (h : z + ln z ≤ p) : ahd ln p l z = true := ahd_iff.mpr (by omega)
theorem dn_last {bg : Nat → Bool} {ln : Nat → Nat} {p l z : Nat} (hl : 1 ≤ l) (h : p + l ≤ z) : ¬ ahd ln p l z = true := fun q => by have := ahd_iff.mp q; omega
theorem lp_getA {d : Nat} {Q : ab_Q} {h0 : ab_H} {g bg : Nat → Bool} {ln : Nat → Nat} {n : Nat} {p l : Nat} (hx : hmx h0 g bg ln n) (hz : zv h0 200 44 = 0 ∧ zv h0 200 45 = 0) (hp : p ≤ 20 ∧ 1 ≤ l ∧ l ≤ 9) (cx : CX g bg ln n) (k1 : ∀ h', F8 h0 h' → hGet g bg ln n l p = some (zv h' 200 44, zv h' 200 45) → Q (some (.int (iI 1))) h') (k0 : ∀ h', F8 h0 h' → hGet g bg ln n l p = none → Q (some (.int (iI 0))) h') : ∀ (nn : Nat) (y : Nat) (h : ab_H), p + l - y = nn → (h = h0) → (p ≤ y) → (y ≤ p + l) → (∀ z : Int, (p : Int) ≤ z → z < y → 0 ≤ z ∧ z < n ∧ g z.toNat = false) → ab_X (d + 2) mX12_getsIn 12 [(0, .ref 200), (1, .int (iI (l : Int))), (2, .int (iI (p : Int))), (3, .int (iI (y : Int)))] [] h Q := by
  intro nn
  induction nn using Nat.strongRecOn with
  | ind nn ih =>
  intro y h hnn hh h1 h2 hI
  subst hh
  have hn2 := hx.2.1
  have hn1 := hx.1
  refine ab_iload_n (k := 3) dX12_getsIn_12 rfl rfl ?_
  refine ab_iload_n (k := 2) dX12_getsIn_13 rfl rfl ?_
  refine ab_iload_n (k := 1) dX12_getsIn_14 rfl rfl ?_
  refine z_iadd dX12_getsIn_15 ?_
  refine z_icmp_ge (tgt := 46) dX12_getsIn_16 (by decide) (by omega) (by omega) (fun c16 => ?_) (fun c16 => ?_)
  · skip
    refine ab_sub (ls' := [(0, .ref 200), (1, .int (iI (l : Int))), (2, .int (iI (p : Int)))]) (ks := [0, 1, 2]) rfl ?_
    refine ab_iload_n (k := 2) dX12_getsIn_46 rfl rfl ?_
    refine ab_istore_n (ls' := [(3, .int (iI (p : Int))), (0, .ref 200), (1, .int (iI (l : Int))), (2, .int (iI (p : Int)))]) dX12_getsIn_47 rfl (by decide) rfl ?_
    refine ab_iload_n (k := 3) dX12_getsIn_48 rfl rfl ?_
    refine ab_iload_n (k := 2) dX12_getsIn_49 rfl rfl ?_
    refine z_iadd dX12_getsIn_50 ?_
    refine z_iconst dX12_getsIn_51 ?_
    refine z_isub dX12_getsIn_52 ?_
    refine ab_istore (ls' := [(4, .int (iI (((p : Int) + (l : Int)) - 1))), (3, .int (iI (p : Int))), (0, .ref 200), (1, .int (iI (l : Int))), (2, .int (iI (p : Int)))]) dX12_getsIn_53 (by decide) rfl ?_
    refine ab_sub (ls' := [(0, .ref 200), (1, .int (iI (l : Int))), (2, .int (iI (p : Int))), (3, .int (iI (p : Int))), (4, .int (iI (((p : Int) + (l : Int)) - 1)))]) (ks := [2, 3, 4, 1, 0]) rfl ?_
    have hgl : glb g n p ((p : Int) + l) = true := glb_iff.mpr (fun z z1 z2 => hI z z1 (by omega))
    have hg1 := glb_iff.mp hgl ((p : Int) + l - 1) (by omega) (by omega)
    rw [show (p : Int) + (l : Int) - 1 = ((p + l : Nat) : Int) - 1 by omega]
    refine lp_getB (R := pD bg (ahd ln p l) ln (glb g n) n p 0 0) hx hp cx (fun hb hFb hRb hb4 hb5 => ?_) (fun h' hF' hR' => k0 h' hF' (hGet_d hgl hR')) _ (p + l) p h rfl (by omega) F8.rf (by omega) (by omega) (by omega) (fun z z1 z2 z3 => ?_) ?_
    · have hxb := hmx_F hFb hx
      refine ab_iload_n (k := 2) dX12_getsIn_146 rfl rfl ?_
      refine ab_iload_n (k := 1) dX12_getsIn_147 rfl rfl ?_
      refine z_iadd dX12_getsIn_148 ?_
      refine ab_istore_n (ls' := [(3, .int (iI ((p : Int) + (l : Int)))), (0, .ref 200), (1, .int (iI (l : Int))), (2, .int (iI (p : Int)))]) dX12_getsIn_149 rfl (by decide) rfl ?_
      refine ab_aload_n (k := 1) dX12_getsIn_150 rfl rfl ?_
      refine ab_iload_n (k := 3) dX12_getsIn_151 rfl rfl ?_
      refine ab_callV (As := [.int (iI (p : Int))]) (rest := []) dX12_getsIn_152 lX12_411 rfl (Nat.le_of_ble_eq_true rfl) (Nat.le_of_ble_eq_true rfl) rfl ?_
      obtain ⟨f, hf, hf1, hf2, hf3⟩ := first_ok hxb cx (show p < 20 by omega)
      refine c_firstOf (by omega) hf ?_
      show ab_X (d + 2) mX12_getsIn 155 [(3, .int (iI ((p : Int) + (l : Int)))), (0, .ref 200), (1, .int (iI (l : Int))), (2, .int (iI (p : Int)))] [.int (iI (f : Int))] hb _
      refine ab_istore (ls' := [(4, .int (iI (f : Int))), (3, .int (iI ((p : Int) + (l : Int)))), (0, .ref 200), (1, .int (iI (l : Int))), (2, .int (iI (p : Int)))]) dX12_getsIn_155 (by decide) rfl ?_
      refine ab_sub (ls' := [(0, .ref 200), (1, .int (iI (l : Int))), (2, .int (iI (p : Int))), (3, .int (iI ((p : Int) + (l : Int)))), (4, .int (iI (f : Int)))]) (ks := [2, 3, 4, 1, 0]) rfl ?_
      refine lp_getC (R := hGet g bg ln n l p) hxb hp cx (fun h' hF' hR' => k1 h' (hFb.tr hF') hR') (fun h' hF' hR' => k0 h' (hFb.tr hF') hR') _ f _ hb rfl (by omega) F8.rf (by omega) (by omega) (by omega) (fun z z1 z2 z3 => ?_) ?_
      · rcases Int.lt_or_le (z : Int) ((p : Int) + l) with r | r
        · rcases Nat.lt_or_ge z p with r2 | r2
          · have := hf3 z z3 r2
            rw [z2] at this; exact absurd this (by decide)
          · have := (glb_iff.mp hgl z (by omega) r).2.2
            rw [Int.toNat_natCast, z2] at this; exact absurd this (by decide)
        · exact r
      · rw [hGet_u hgl hRb, pU2_skip f (by omega) (fun y hy q => q.2 (up_first (by omega) (hf2 y hy q.1)))]
    · rcases Int.lt_or_le (z : Int) p with r | r
      · exact r
      · have := (glb_iff.mp hgl z r (by omega)).2.2
        rw [Int.toNat_natCast, z2] at this; exact absurd this (by decide)
    · rw [hz.1, hz.2]
      exact (pD_skip n (by omega) (fun y y1 y2 q => dn_last (bg := bg) (by omega) y1 q.2)).symm
  · skip
    refine ab_aload_n (k := 0) dX12_getsIn_19 rfl rfl ?_
    refine ab_iload_n (k := 3) dX12_getsIn_20 rfl rfl ?_
    refine ab_callV (As := [.int (iI (y : Int))]) (rest := []) dX12_getsIn_21 lX12_302 rfl (Nat.le_of_ble_eq_true rfl) (Nat.le_of_ble_eq_true rfl) rfl ?_
    refine c_misYard (by omega) (fun g21 => ?_) (fun g21 => ?_)
    · skip
      have gY := g21
      show ab_X (d + 2) mX12_getsIn 24 [(0, .ref 200), (1, .int (iI (l : Int))), (2, .int (iI (p : Int))), (3, .int (iI (y : Int)))] [.int (iI 1)] h _
      refine z_if_eq (tgt := 38) dX12_getsIn_24 (by decide) (by decide) (fun c24 => absurd c24 (by decide)) (fun _ => ?_)
      refine ab_aload_n (k := 0) dX12_getsIn_27 rfl rfl ?_
      refine z_getP (b := 211) dX12_getsIn_28 fX12_55 rfl rfl rfl ?_
      refine ab_iload_n (k := 3) dX12_getsIn_31 rfl rfl ?_
      refine z_iald dX12_getsIn_32 rfl (by omega) (by omega) ?_
      simp only [Int.toNat_natCast]
      have b1 := zv_R h 211 y
      refine z_bipush dX12_getsIn_33 (by decide) ?_
      refine z_icmp_ne (tgt := 40) dX12_getsIn_35 (by decide) (by omega) (by decide) (fun c35 => ?_) (fun c35 => ?_)
      · skip
        refine z_iinc (k := 3) (v := (y : Int) + 1) (ls' := [(3, .int (iI ((y : Int) + 1))), (0, .ref 200), (1, .int (iI (l : Int))), (2, .int (iI (p : Int)))]) dX12_getsIn_40 rfl rfl (by decide) rfl ?_
        refine ab_goto (tgt := 12) dX12_getsIn_43 (by decide) ?_
        refine ab_sub (ls' := [(0, .ref 200), (1, .int (iI (l : Int))), (2, .int (iI (p : Int))), (3, .int (iI ((y : Int) + 1)))]) (ks := [1, 2, 3, 0]) rfl ?_
        refine ih _ (by omega) (y + 1) h rfl rfl (by omega) (by omega) (fun z z1 z2 => ?_)
        by_cases e : z = y
        · subst e
          refine ⟨by omega, by omega, ?_⟩
          rw [Int.toNat_natCast]
          cases eg : g y with
          | false => rfl
          | true => have := (hx.2.2.1 y (by omega)).mp eg; omega
        · exact hI z z1 (by omega)
      · skip
        refine z_iconst dX12_getsIn_38 ?_
        refine z_zret dX12_getsIn_39 rfl (Or.inl rfl) ?_
        first
        | (refine k0 h F8.rf (hGet_n (fun q => ?_))
           have q2 := glb_iff.mp q y (by omega) (by omega)
           exact gY ⟨q2.1, by omega⟩)
        | (refine k0 h F8.rf (hGet_n (fun q => ?_))
           have q2 := glb_iff.mp q y (by omega) (by omega)
           have := (hx.2.2.1 y (by omega)).mpr (by omega)
           rw [Int.toNat_natCast] at q2
           rw [q2.2.2] at this; exact absurd this (by decide))
    · skip
      have gY := g21
      show ab_X (d + 2) mX12_getsIn 24 [(0, .ref 200), (1, .int (iI (l : Int))), (2, .int (iI (p : Int))), (3, .int (iI (y : Int)))] [.int (iI 0)] h _
      refine z_if_eq (tgt := 38) dX12_getsIn_24 (by decide) (by decide) (fun _ => ?_) (fun c24 => absurd c24 (by decide))
      refine z_iconst dX12_getsIn_38 ?_
      refine z_zret dX12_getsIn_39 rfl (Or.inl rfl) ?_
      first
      | (refine k0 h F8.rf (hGet_n (fun q => ?_))
         have q2 := glb_iff.mp q y (by omega) (by omega)
         exact gY ⟨q2.1, by omega⟩)
      | (refine k0 h F8.rf (hGet_n (fun q => ?_))
         have q2 := glb_iff.mp q y (by omega) (by omega)
         have := (hx.2.2.1 y (by omega)).mpr (by omega)
         rw [Int.toNat_natCast] at q2
         rw [q2.2.2] at this; exact absurd this (by decide))
theorem c_getsIn {d : Nat} {h : ab_H} {Q : ab_Q} {g bg : Nat → Bool} {ln : Nat → Nat} {n : Nat} {p l : Nat} (hx : hmx h g bg ln n) (hp : p ≤ 20 ∧ 1 ≤ l ∧ l ≤ 9) (cx : CX g bg ln n) (k1 : ∀ h', F8 h h' → hGet g bg ln n l p = some (zv h' 200 44, zv h' 200 45) → Q (some (.int (iI 1))) h') (k0 : ∀ h', F8 h h' → hGet g bg ln n l p = none → Q (some (.int (iI 0))) h') : ab_X (d + 2) mX12_getsIn 0 (lv_args 0 [.ref 200, .int (iI (l : Int)), .int (iI (p : Int))]) [] h Q := by
  show ab_X (d + 2) mX12_getsIn 0 [(0, .ref 200), (1, .int (iI (l : Int))), (2, .int (iI (p : Int)))] [] h Q
  refine ab_aload_n (k := 0) dX12_getsIn_0 rfl rfl ?_
  refine z_iconst dX12_getsIn_1 ?_
  refine z_putI dX12_getsIn_2 fX12_398 rfl rfl ?_
  refine ab_aload_n (k := 0) dX12_getsIn_5 rfl rfl ?_
  refine z_iconst dX12_getsIn_6 ?_
  refine z_putI dX12_getsIn_7 fX12_401 rfl rfl ?_
  refine ab_iload_n (k := 2) dX12_getsIn_10 rfl rfl ?_
  refine ab_istore_n (ls' := [(3, .int (iI (p : Int))), (0, .ref 200), (1, .int (iI (l : Int))), (2, .int (iI (p : Int)))]) dX12_getsIn_11 rfl (by decide) rfl ?_
  refine ab_sub (ls' := [(0, .ref 200), (1, .int (iI (l : Int))), (2, .int (iI (p : Int))), (3, .int (iI (p : Int)))]) (ks := [1, 2, 3, 0]) rfl ?_
  have f1 : F8 h (zp (zp h 200 44 0) 200 45 0) := F8_put F8.rf
  exact lp_getA (hmx_F f1 hx) ⟨by rw [zv_zp_ne (by decide), zv_zp_s (by decide)], zv_zp_s (by decide)⟩ hp cx (fun h' a b => k1 h' (f1.tr a) b) (fun h' a b => k0 h' (f1.tr a) b) _ p _ rfl rfl (Nat.le_refl p) (by omega) (fun z z1 z2 => absurd z1 (by omega))
theorem lp_mhearse {d : Nat} {Q : ab_Q} {h0 : ab_H} {g bg : Nat → Bool} {ln : Nat → Nat} {n : Nat} {s L : Nat} {x : Int} (hx0 : hmx h0 g bg ln n) (cx : CX g bg ln n) (hs : s < 4) (hL : zv h0 207 (2 * s) = L) (hL2 : 1 ≤ L ∧ L ≤ 9) (hxx : 0 ≤ x ∧ x ≤ 2) (K : ∀ h', F8 h0 h' → ¬ (hBst g bg ln n L n).2.2 = -1 → Q (some (.int (iI (if x = 0 then (hBst g bg ln n L n).1 else if x = 1 then (hBst g bg ln n L n).2.1 else (hBst g bg ln n L n).2.2)))) h') (K0 : ∀ h', F8 h0 h' → (hBst g bg ln n L n).2.2 = -1 → Q (some (.int (iI (-1)))) h') : ∀ (nn : Nat) (p : Nat) (b : Int) (u : Int) (v : Int) (h : ab_H), n - p = nn → (p ≤ n) → (F8 h0 h) → (b = (hBst g bg ln n L p).2.2) → (¬ b = -1 → u = (hBst g bg ln n L p).1 ∧ v = (hBst g bg ln n L p).2.1) → (inR u ∧ inR v) → ab_X (d + 3) mX12_hearse 38 [(0, .ref 200), (1, .int (iI (s : Int))), (2, .int (iI x)), (3, .int (iI b)), (4, .int (iI u)), (5, .int (iI v)), (6, .int (iI (p : Int)))] [] h Q := by
  intro nn
  induction nn using Nat.strongRecOn with
  | ind nn ih =>
  intro p b u v h hnn h2 hF hb hu huR
  have hx := hmx_F hF hx0
  have hn2 := hx.2.1
  have hbb := hBst_b (g := g) (bg := bg) (ln := ln) (n := n) (l := L) p
  have hLh : zv h 207 (2 * s) = L := (hF.1.1 207 _ (by decide)).trans hL
  refine ab_iload (k := 6) dX12_hearse_38 rfl ?_
  refine ab_aload_n (k := 0) dX12_hearse_40 rfl rfl ?_
  refine z_getI dX12_hearse_41 fX12_290 rfl (Or.inl rfl) ?_
  refine z_is (y := (n : Int)) hx.1 ?_
  refine z_icmp_ge (tgt := 99) dX12_hearse_44 (by decide) (by omega) (by omega) (fun c44 => ?_) (fun c44 => ?_)
  · skip
    refine ab_iload_n (k := 3) dX12_hearse_99 rfl rfl ?_
    refine z_iconst dX12_hearse_100 ?_
    refine z_icmp_ne (tgt := 108) dX12_hearse_101 (by decide) (by omega) (by decide) (fun c101 => ?_) (fun c101 => ?_)
    · skip
      refine ab_iload_n (k := 2) dX12_hearse_108 rfl rfl ?_
      refine z_if_ne (tgt := 117) dX12_hearse_109 (by decide) (by omega) (fun c109 => ?_) (fun c109 => ?_)
      · skip
        refine ab_iload_n (k := 2) dX12_hearse_117 rfl rfl ?_
        refine z_iconst dX12_hearse_118 ?_
        refine z_icmp_ne (tgt := 127) dX12_hearse_119 (by decide) (by omega) (by decide) (fun c119 => ?_) (fun c119 => ?_)
        · skip
          refine ab_iload_n (k := 3) dX12_hearse_127 rfl rfl ?_
          refine z_iret dX12_hearse_128 rfl ?_
          have e : p = n := by omega
          subst e
          first
          | exact K0 h hF (by omega)
          | (have k2 := K h hF (by omega)
             have hu2 := hu (by omega)
             first
             | (rw [if_pos (by omega), ← hu2.1] at k2; exact k2)
             | (rw [if_neg (by omega), if_pos (by omega), ← hu2.2] at k2; exact k2)
             | (rw [if_neg (by omega), if_neg (by omega), ← hb] at k2; exact k2))
        · skip
          refine ab_iload (k := 5) dX12_hearse_122 rfl ?_
          refine ab_goto (tgt := 128) dX12_hearse_124 (by decide) ?_
          refine z_iret dX12_hearse_128 rfl ?_
          have e : p = n := by omega
          subst e
          first
          | exact K0 h hF (by omega)
          | (have k2 := K h hF (by omega)
             have hu2 := hu (by omega)
             first
             | (rw [if_pos (by omega), ← hu2.1] at k2; exact k2)
             | (rw [if_neg (by omega), if_pos (by omega), ← hu2.2] at k2; exact k2)
             | (rw [if_neg (by omega), if_neg (by omega), ← hb] at k2; exact k2))
      · skip
        refine ab_iload (k := 4) dX12_hearse_112 rfl ?_
        refine ab_goto (tgt := 128) dX12_hearse_114 (by decide) ?_
        refine z_iret dX12_hearse_128 rfl ?_
        have e : p = n := by omega
        subst e
        first
        | exact K0 h hF (by omega)
        | (have k2 := K h hF (by omega)
           have hu2 := hu (by omega)
           first
           | (rw [if_pos (by omega), ← hu2.1] at k2; exact k2)
           | (rw [if_neg (by omega), if_pos (by omega), ← hu2.2] at k2; exact k2)
           | (rw [if_neg (by omega), if_neg (by omega), ← hb] at k2; exact k2))
    · skip
      refine z_iconst dX12_hearse_104 ?_
      refine ab_goto (tgt := 128) dX12_hearse_105 (by decide) ?_
      refine z_iret dX12_hearse_128 rfl ?_
      have e : p = n := by omega
      subst e
      first
      | exact K0 h hF (by omega)
      | (have k2 := K h hF (by omega)
         have hu2 := hu (by omega)
         first
         | (rw [if_pos (by omega), ← hu2.1] at k2; exact k2)
         | (rw [if_neg (by omega), if_pos (by omega), ← hu2.2] at k2; exact k2)
         | (rw [if_neg (by omega), if_neg (by omega), ← hb] at k2; exact k2))
  · skip
    refine ab_aload_n (k := 0) dX12_hearse_47 rfl rfl ?_
    refine ab_aload_n (k := 0) dX12_hearse_48 rfl rfl ?_
    refine ab_iload_n (k := 1) dX12_hearse_49 rfl rfl ?_
    refine ab_callV (As := [.int (iI (s : Int))]) (rest := [.ref 200]) dX12_hearse_50 lX12_312 rfl (Nat.le_of_ble_eq_true rfl) (Nat.le_of_ble_eq_true rfl) rfl ?_
    refine c_mlengthOf (by omega) ?_
    have bl50 := zv_R h 207 (2 * s)
    show ab_X (d + 3) mX12_hearse 53 [(0, .ref 200), (1, .int (iI (s : Int))), (2, .int (iI x)), (3, .int (iI b)), (4, .int (iI u)), (5, .int (iI v)), (6, .int (iI (p : Int)))] [.int (iI (zv h 207 (2 * s))), .ref 200] h _
    refine z_is (y := (L : Int)) hLh ?_
    refine ab_iload (k := 6) dX12_hearse_53 rfl ?_
    refine ab_callV (As := [.int (iI (L : Int)), .int (iI (p : Int))]) (rest := []) dX12_hearse_55 lX12_419 rfl (Nat.le_of_ble_eq_true rfl) (Nat.le_of_ble_eq_true rfl) rfl ?_
    refine c_getsIn hx (by omega) cx (fun h1 hF1 hG => ?_) (fun h1 hF1 hG => ?_)
    · skip
      have bb4 := zv_R h1 200 44
      have bb5 := zv_R h1 200 45
      show ab_X (d + 3) mX12_hearse 58 [(0, .ref 200), (1, .int (iI (s : Int))), (2, .int (iI x)), (3, .int (iI b)), (4, .int (iI u)), (5, .int (iI v)), (6, .int (iI (p : Int)))] [.int (iI 1)] h1 _
      refine z_if_eq (tgt := 93) dX12_hearse_58 (by decide) (by decide) (fun c58 => absurd c58 (by decide)) (fun _ => ?_)
      refine ab_iload_n (k := 3) dX12_hearse_61 rfl rfl ?_
      refine z_iconst dX12_hearse_62 ?_
      refine z_icmp_eq (tgt := 78) dX12_hearse_63 (by decide) (by omega) (by decide) (fun c63 => ?_) (fun c63 => ?_)
      · skip
        refine ab_iload (k := 6) dX12_hearse_78 rfl ?_
        refine ab_istore_n (ls' := [(3, .int (iI (p : Int))), (0, .ref 200), (1, .int (iI (s : Int))), (2, .int (iI x)), (4, .int (iI u)), (5, .int (iI v)), (6, .int (iI (p : Int)))]) dX12_hearse_80 rfl (by decide) rfl ?_
        refine ab_aload_n (k := 1) dX12_hearse_81 rfl rfl ?_
        refine z_getI dX12_hearse_82 fX12_398 rfl (Or.inl rfl) ?_
        have b1 := zv_R h1 200 44
        refine ab_istore (ls' := [(4, .int (iI (zv h1 200 44))), (3, .int (iI (p : Int))), (0, .ref 200), (1, .int (iI (s : Int))), (2, .int (iI x)), (5, .int (iI v)), (6, .int (iI (p : Int)))]) dX12_hearse_85 (by decide) rfl ?_
        refine ab_aload_n (k := 2) dX12_hearse_87 rfl rfl ?_
        refine z_getI dX12_hearse_88 fX12_401 rfl (Or.inl rfl) ?_
        have b2 := zv_R h1 200 45
        refine ab_istore (ls' := [(5, .int (iI (zv h1 200 45))), (4, .int (iI (zv h1 200 44))), (3, .int (iI (p : Int))), (0, .ref 200), (1, .int (iI (s : Int))), (2, .int (iI x)), (6, .int (iI (p : Int)))]) dX12_hearse_91 (by decide) rfl ?_
        refine z_iinc (k := 6) (v := (p : Int) + 1) (ls' := [(6, .int (iI ((p : Int) + 1))), (5, .int (iI (zv h1 200 45))), (4, .int (iI (zv h1 200 44))), (3, .int (iI (p : Int))), (0, .ref 200), (1, .int (iI (s : Int))), (2, .int (iI x))]) dX12_hearse_93 rfl rfl (by decide) rfl ?_
        refine ab_goto (tgt := 38) dX12_hearse_96 (by decide) ?_
        refine ab_sub (ls' := [(0, .ref 200), (1, .int (iI (s : Int))), (2, .int (iI x)), (3, .int (iI (p : Int))), (4, .int (iI (zv h1 200 44))), (5, .int (iI (zv h1 200 45))), (6, .int (iI ((p : Int) + 1)))]) (ks := [4, 5, 6, 3, 2, 1, 0]) rfl ?_
        first
        | exact ih _ (by omega) (p + 1) b u v h1 rfl (by omega) (hF.tr hF1) (by rw [hBst_n hG]; exact hb) (fun q => by rw [hBst_n hG]; exact hu q) huR
        | exact ih _ (by omega) (p + 1) b u v h1 rfl (by omega) (hF.tr hF1) (by rw [hBst_f hG (by have := hu (by omega); omega)]; exact hb) (fun q => by rw [hBst_f hG (by have := hu (by omega); omega)]; exact hu q) huR
        | exact ih _ (by omega) (p + 1) _ _ _ h1 rfl (by omega) (hF.tr hF1) (by rw [hBst_t hG (by first | (exact Or.inl (by omega)) | (have := hu (by omega); omega))]) (fun q => by rw [hBst_t hG (by first | (exact Or.inl (by omega)) | (have := hu (by omega); omega))]; exact ⟨rfl, rfl⟩) ⟨bb4, bb5⟩
      · skip
        refine ab_aload_n (k := 0) dX12_hearse_66 rfl rfl ?_
        refine z_getI dX12_hearse_67 fX12_398 rfl (Or.inl rfl) ?_
        have b3 := zv_R h1 200 44
        refine ab_iload (k := 4) dX12_hearse_70 rfl ?_
        refine z_icmp_lt (tgt := 78) dX12_hearse_72 (by decide) (by omega) (by omega) (fun c72 => ?_) (fun c72 => ?_)
        · skip
          refine ab_iload (k := 6) dX12_hearse_78 rfl ?_
          refine ab_istore_n (ls' := [(3, .int (iI (p : Int))), (0, .ref 200), (1, .int (iI (s : Int))), (2, .int (iI x)), (4, .int (iI u)), (5, .int (iI v)), (6, .int (iI (p : Int)))]) dX12_hearse_80 rfl (by decide) rfl ?_
          refine ab_aload_n (k := 1) dX12_hearse_81 rfl rfl ?_
          refine z_getI dX12_hearse_82 fX12_398 rfl (Or.inl rfl) ?_
          have b4 := zv_R h1 200 44
          refine ab_istore (ls' := [(4, .int (iI (zv h1 200 44))), (3, .int (iI (p : Int))), (0, .ref 200), (1, .int (iI (s : Int))), (2, .int (iI x)), (5, .int (iI v)), (6, .int (iI (p : Int)))]) dX12_hearse_85 (by decide) rfl ?_
          refine ab_aload_n (k := 2) dX12_hearse_87 rfl rfl ?_
          refine z_getI dX12_hearse_88 fX12_401 rfl (Or.inl rfl) ?_
          have b5 := zv_R h1 200 45
          refine ab_istore (ls' := [(5, .int (iI (zv h1 200 45))), (4, .int (iI (zv h1 200 44))), (3, .int (iI (p : Int))), (0, .ref 200), (1, .int (iI (s : Int))), (2, .int (iI x)), (6, .int (iI (p : Int)))]) dX12_hearse_91 (by decide) rfl ?_
          refine z_iinc (k := 6) (v := (p : Int) + 1) (ls' := [(6, .int (iI ((p : Int) + 1))), (5, .int (iI (zv h1 200 45))), (4, .int (iI (zv h1 200 44))), (3, .int (iI (p : Int))), (0, .ref 200), (1, .int (iI (s : Int))), (2, .int (iI x))]) dX12_hearse_93 rfl rfl (by decide) rfl ?_
          refine ab_goto (tgt := 38) dX12_hearse_96 (by decide) ?_
          refine ab_sub (ls' := [(0, .ref 200), (1, .int (iI (s : Int))), (2, .int (iI x)), (3, .int (iI (p : Int))), (4, .int (iI (zv h1 200 44))), (5, .int (iI (zv h1 200 45))), (6, .int (iI ((p : Int) + 1)))]) (ks := [4, 5, 6, 3, 2, 1, 0]) rfl ?_
          first
          | exact ih _ (by omega) (p + 1) b u v h1 rfl (by omega) (hF.tr hF1) (by rw [hBst_n hG]; exact hb) (fun q => by rw [hBst_n hG]; exact hu q) huR
          | exact ih _ (by omega) (p + 1) b u v h1 rfl (by omega) (hF.tr hF1) (by rw [hBst_f hG (by have := hu (by omega); omega)]; exact hb) (fun q => by rw [hBst_f hG (by have := hu (by omega); omega)]; exact hu q) huR
          | exact ih _ (by omega) (p + 1) _ _ _ h1 rfl (by omega) (hF.tr hF1) (by rw [hBst_t hG (by first | (exact Or.inl (by omega)) | (have := hu (by omega); omega))]) (fun q => by rw [hBst_t hG (by first | (exact Or.inl (by omega)) | (have := hu (by omega); omega))]; exact ⟨rfl, rfl⟩) ⟨bb4, bb5⟩
        · skip
          refine ab_goto (tgt := 93) dX12_hearse_75 (by decide) ?_
          refine z_iinc (k := 6) (v := (p : Int) + 1) (ls' := [(6, .int (iI ((p : Int) + 1))), (0, .ref 200), (1, .int (iI (s : Int))), (2, .int (iI x)), (3, .int (iI b)), (4, .int (iI u)), (5, .int (iI v))]) dX12_hearse_93 rfl rfl (by decide) rfl ?_
          refine ab_goto (tgt := 38) dX12_hearse_96 (by decide) ?_
          refine ab_sub (ls' := [(0, .ref 200), (1, .int (iI (s : Int))), (2, .int (iI x)), (3, .int (iI b)), (4, .int (iI u)), (5, .int (iI v)), (6, .int (iI ((p : Int) + 1)))]) (ks := [1, 2, 3, 4, 5, 6, 0]) rfl ?_
          first
          | exact ih _ (by omega) (p + 1) b u v h1 rfl (by omega) (hF.tr hF1) (by rw [hBst_n hG]; exact hb) (fun q => by rw [hBst_n hG]; exact hu q) huR
          | exact ih _ (by omega) (p + 1) b u v h1 rfl (by omega) (hF.tr hF1) (by rw [hBst_f hG (by have := hu (by omega); omega)]; exact hb) (fun q => by rw [hBst_f hG (by have := hu (by omega); omega)]; exact hu q) huR
          | exact ih _ (by omega) (p + 1) _ _ _ h1 rfl (by omega) (hF.tr hF1) (by rw [hBst_t hG (by first | (exact Or.inl (by omega)) | (have := hu (by omega); omega))]) (fun q => by rw [hBst_t hG (by first | (exact Or.inl (by omega)) | (have := hu (by omega); omega))]; exact ⟨rfl, rfl⟩) ⟨bb4, bb5⟩
    · skip
      show ab_X (d + 3) mX12_hearse 58 [(0, .ref 200), (1, .int (iI (s : Int))), (2, .int (iI x)), (3, .int (iI b)), (4, .int (iI u)), (5, .int (iI v)), (6, .int (iI (p : Int)))] [.int (iI 0)] h1 _
      refine z_if_eq (tgt := 93) dX12_hearse_58 (by decide) (by decide) (fun _ => ?_) (fun c58 => absurd c58 (by decide))
      refine z_iinc (k := 6) (v := (p : Int) + 1) (ls' := [(6, .int (iI ((p : Int) + 1))), (0, .ref 200), (1, .int (iI (s : Int))), (2, .int (iI x)), (3, .int (iI b)), (4, .int (iI u)), (5, .int (iI v))]) dX12_hearse_93 rfl rfl (by decide) rfl ?_
      refine ab_goto (tgt := 38) dX12_hearse_96 (by decide) ?_
      refine ab_sub (ls' := [(0, .ref 200), (1, .int (iI (s : Int))), (2, .int (iI x)), (3, .int (iI b)), (4, .int (iI u)), (5, .int (iI v)), (6, .int (iI ((p : Int) + 1)))]) (ks := [1, 2, 3, 4, 5, 6, 0]) rfl ?_
      first
      | exact ih _ (by omega) (p + 1) b u v h1 rfl (by omega) (hF.tr hF1) (by rw [hBst_n hG]; exact hb) (fun q => by rw [hBst_n hG]; exact hu q) huR
      | exact ih _ (by omega) (p + 1) b u v h1 rfl (by omega) (hF.tr hF1) (by rw [hBst_f hG (by have := hu (by omega); omega)]; exact hb) (fun q => by rw [hBst_f hG (by have := hu (by omega); omega)]; exact hu q) huR
      | exact ih _ (by omega) (p + 1) _ _ _ h1 rfl (by omega) (hF.tr hF1) (by rw [hBst_t hG (by first | (exact Or.inl (by omega)) | (have := hu (by omega); omega))]) (fun q => by rw [hBst_t hG (by first | (exact Or.inl (by omega)) | (have := hu (by omega); omega))]; exact ⟨rfl, rfl⟩) ⟨bb4, bb5⟩
theorem hBst_m1 {g bg : Nat → Bool} {ln : Nat → Nat} {n l : Nat} : ∀ p, (hBst g bg ln n l p).2.2 = -1 → hBst g bg ln n l p = (-1, -1, -1)
  | 0, _ => rfl
  | p + 1, h => by
    have hb := hBst_b (g := g) (bg := bg) (ln := ln) (n := n) (l := l) p
    cases e : hGet g bg ln n l p with
    | none => rw [hBst_n e] at h ⊢; exact hBst_m1 p h
    | some x =>
      by_cases h2 : (hBst g bg ln n l p).2.2 = -1 ∨ x.1 < (hBst g bg ln n l p).1
      · rw [hBst_t (a := x.1) (b := x.2) e h2] at h; have h3 : (p : Int) = -1 := h; omega
      · rw [hBst_f (a := x.1) (b := x.2) e h2] at h ⊢; exact hBst_m1 p h
theorem c_mhearse {d : Nat} {h : ab_H} {Q : ab_Q} {h9 : ab_H} {g bg : Nat → Bool} {ln : Nat → Nat} {n : Nat} {s L : Nat} {x : Int} (e9 : zp h 200 0 0 = h9) (hx : hmx h9 g bg ln n) (cx : CX g bg ln n) (hs : s < 4) (hL : zv h9 207 (2 * s) = L) (hL2 : 1 ≤ L ∧ L ≤ 9) (hv : (s : Int) < zv h9 200 24) (hxx : 0 ≤ x ∧ x ≤ 2) (K : ∀ h', F8 h9 h' → Q (some (.int (iI (if x = 0 then (hBst g bg ln n L n).1 else if x = 1 then (hBst g bg ln n L n).2.1 else (hBst g bg ln n L n).2.2)))) h') : ab_X (d + 3) mX12_hearse 0 (lv_args 0 [.ref 200, .int (iI (s : Int)), .int (iI x)]) [] h Q := by
  show ab_X (d + 3) mX12_hearse 0 [(0, .ref 200), (1, .int (iI (s : Int))), (2, .int (iI x))] [] h Q
  refine ab_aload_n (k := 0) dX12_hearse_0 rfl rfl ?_
  refine z_iconst dX12_hearse_1 ?_
  refine z_putI dX12_hearse_2 fX12_111 rfl rfl ?_
  rw [e9]
  refine ab_aload_n (k := 0) dX12_hearse_5 rfl rfl ?_
  refine ab_iload_n (k := 1) dX12_hearse_6 rfl rfl ?_
  refine ab_callV (As := [.int (iI (s : Int))]) (rest := []) dX12_hearse_7 lX12_307 rfl (Nat.le_of_ble_eq_true rfl) (Nat.le_of_ble_eq_true rfl) rfl ?_
  refine c_misSort (by omega) (fun g7 => ?_) (fun g7 => ?_)
  · skip
    try simp only [Int.toNat_natCast] at g7
    have gL := g7
    show ab_X (d + 3) mX12_hearse 10 [(0, .ref 200), (1, .int (iI (s : Int))), (2, .int (iI x))] [.int (iI 1)] h9 _
    refine z_if_eq (tgt := 25) dX12_hearse_10 (by decide) (by decide) (fun c10 => absurd c10 (by decide)) (fun _ => ?_)
    refine ab_iload_n (k := 2) dX12_hearse_13 rfl rfl ?_
    refine z_i2l dX12_hearse_14 (by omega) ?_
    refine z_lconst (v := 0) dX12_hearse_15 (by decide) ?_
    refine z_ldc2 (v := 2) dX12_hearse_16 qX12_305 (by decide) ?_
    refine ab_callS (As := [.long (lL x), .long (lL 0), .long (lL 2)]) (rest := []) dX12_hearse_19 lX12_232 (Nat.le_of_ble_eq_true rfl) (Nat.le_of_ble_eq_true rfl) rfl ?_
    refine c_isIn (by omega) (by omega) (by omega) (fun g19 => ?_) (fun g19 => ?_)
    · skip
      try simp only [Int.toNat_natCast] at g19
      have gL := g19
      show ab_X (d + 3) mX12_hearse 22 [(0, .ref 200), (1, .int (iI (s : Int))), (2, .int (iI x))] [.int (iI 1)] h9 _
      refine z_if_ne (tgt := 27) dX12_hearse_22 (by decide) (by decide) (fun _ => ?_) (fun c22 => absurd c22 (by decide))
      refine z_iconst dX12_hearse_27 ?_
      refine ab_istore_n (ls' := [(3, .int (iI (-1))), (0, .ref 200), (1, .int (iI (s : Int))), (2, .int (iI x))]) dX12_hearse_28 rfl (by decide) rfl ?_
      refine z_iconst dX12_hearse_29 ?_
      refine ab_istore (ls' := [(4, .int (iI 0)), (3, .int (iI (-1))), (0, .ref 200), (1, .int (iI (s : Int))), (2, .int (iI x))]) dX12_hearse_30 (by decide) rfl ?_
      refine z_iconst dX12_hearse_32 ?_
      refine ab_istore (ls' := [(5, .int (iI 0)), (4, .int (iI 0)), (3, .int (iI (-1))), (0, .ref 200), (1, .int (iI (s : Int))), (2, .int (iI x))]) dX12_hearse_33 (by decide) rfl ?_
      refine z_iconst dX12_hearse_35 ?_
      refine ab_istore (ls' := [(6, .int (iI 0)), (5, .int (iI 0)), (4, .int (iI 0)), (3, .int (iI (-1))), (0, .ref 200), (1, .int (iI (s : Int))), (2, .int (iI x))]) dX12_hearse_36 (by decide) rfl ?_
      refine ab_sub (ls' := [(0, .ref 200), (1, .int (iI (s : Int))), (2, .int (iI x)), (3, .int (iI (-1))), (4, .int (iI 0)), (5, .int (iI 0)), (6, .int (iI 0))]) (ks := [4, 5, 6, 3, 2, 1, 0]) rfl ?_
      refine lp_mhearse hx cx hs hL hL2 (by omega) (fun h' a _ => K h' a) (fun h' a q => ?_) _ 0 _ _ _ h9 rfl (by omega) F8.rf rfl (fun q => absurd rfl q) ⟨by decide, by decide⟩
      have k2 := K h' a
      rw [hBst_m1 n q] at k2
      have e : (if x = 0 then ((-1, -1, -1) : Int × Int × Int).1 else if x = 1 then ((-1, -1, -1) : Int × Int × Int).2.1 else ((-1, -1, -1) : Int × Int × Int).2.2) = -1 := by (repeat' split) <;> rfl
      rw [e] at k2
      exact k2
    · skip
      try simp only [Int.toNat_natCast] at g19
      have gL := g19
      show ab_X (d + 3) mX12_hearse 22 [(0, .ref 200), (1, .int (iI (s : Int))), (2, .int (iI x))] [.int (iI 0)] h9 _
      refine z_if_ne (tgt := 27) dX12_hearse_22 (by decide) (by decide) (fun c22 => absurd c22 (by decide)) (fun _ => ?_)
      refine z_iconst dX12_hearse_25 ?_
      refine z_iret dX12_hearse_26 rfl ?_
      exact absurd gL (by omega)
  · skip
    try simp only [Int.toNat_natCast] at g7
    have gL := g7
    show ab_X (d + 3) mX12_hearse 10 [(0, .ref 200), (1, .int (iI (s : Int))), (2, .int (iI x))] [.int (iI 0)] h9 _
    refine z_if_eq (tgt := 25) dX12_hearse_10 (by decide) (by decide) (fun _ => ?_) (fun c10 => absurd c10 (by decide))
    refine z_iconst dX12_hearse_25 ?_
    refine z_iret dX12_hearse_26 rfl ?_
    exact absurd gL (by omega)
theorem c_mhearse0 {d : Nat} {h : ab_H} {Q : ab_Q} {h9 : ab_H} {s x : Int} (e9 : zp h 200 0 0 = h9) (hs : inR s) (hx : inR x) (hno : ¬ ((0 ≤ s ∧ s < zv h9 200 24) ∧ 0 ≤ x ∧ x ≤ 2)) (K : Q (some (.int (iI (-1)))) h9) : ab_X (d + 3) mX12_hearse 0 (lv_args 0 [.ref 200, .int (iI s), .int (iI x)]) [] h Q := by
  show ab_X (d + 3) mX12_hearse 0 [(0, .ref 200), (1, .int (iI s)), (2, .int (iI x))] [] h Q
  refine ab_aload_n (k := 0) dX12_hearse_0 rfl rfl ?_
  refine z_iconst dX12_hearse_1 ?_
  refine z_putI dX12_hearse_2 fX12_111 rfl rfl ?_
  rw [e9]
  refine ab_aload_n (k := 0) dX12_hearse_5 rfl rfl ?_
  refine ab_iload_n (k := 1) dX12_hearse_6 rfl rfl ?_
  refine ab_callV (As := [.int (iI s)]) (rest := []) dX12_hearse_7 lX12_307 rfl (Nat.le_of_ble_eq_true rfl) (Nat.le_of_ble_eq_true rfl) rfl ?_
  refine c_misSort (by omega) (fun g7 => ?_) (fun g7 => ?_)
  · skip
    try simp only [Int.toNat_natCast] at g7
    have gL := g7
    show ab_X (d + 3) mX12_hearse 10 [(0, .ref 200), (1, .int (iI s)), (2, .int (iI x))] [.int (iI 1)] h9 _
    refine z_if_eq (tgt := 25) dX12_hearse_10 (by decide) (by decide) (fun c10 => absurd c10 (by decide)) (fun _ => ?_)
    refine ab_iload_n (k := 2) dX12_hearse_13 rfl rfl ?_
    refine z_i2l dX12_hearse_14 (by omega) ?_
    refine z_lconst (v := 0) dX12_hearse_15 (by decide) ?_
    refine z_ldc2 (v := 2) dX12_hearse_16 qX12_305 (by decide) ?_
    refine ab_callS (As := [.long (lL x), .long (lL 0), .long (lL 2)]) (rest := []) dX12_hearse_19 lX12_232 (Nat.le_of_ble_eq_true rfl) (Nat.le_of_ble_eq_true rfl) rfl ?_
    refine c_isIn (by omega) (by omega) (by omega) (fun g19 => ?_) (fun g19 => ?_)
    · skip
      try simp only [Int.toNat_natCast] at g19
      have gL := g19
      show ab_X (d + 3) mX12_hearse 22 [(0, .ref 200), (1, .int (iI s)), (2, .int (iI x))] [.int (iI 1)] h9 _
      refine z_if_ne (tgt := 27) dX12_hearse_22 (by decide) (by decide) (fun _ => ?_) (fun c22 => absurd c22 (by decide))
      refine ab_sub (ls' := [(0, .ref 200), (1, .int (iI s)), (2, .int (iI x))]) (ks := [0, 1, 2]) rfl ?_
      first | exact K | exact absurd hno (by omega)
    · skip
      try simp only [Int.toNat_natCast] at g19
      have gL := g19
      show ab_X (d + 3) mX12_hearse 22 [(0, .ref 200), (1, .int (iI s)), (2, .int (iI x))] [.int (iI 0)] h9 _
      refine z_if_ne (tgt := 27) dX12_hearse_22 (by decide) (by decide) (fun c22 => absurd c22 (by decide)) (fun _ => ?_)
      refine z_iconst dX12_hearse_25 ?_
      refine z_iret dX12_hearse_26 rfl ?_
      first | exact K | exact absurd hno (by omega)
  · skip
    try simp only [Int.toNat_natCast] at g7
    have gL := g7
    show ab_X (d + 3) mX12_hearse 10 [(0, .ref 200), (1, .int (iI s)), (2, .int (iI x))] [.int (iI 0)] h9 _
    refine z_if_eq (tgt := 25) dX12_hearse_10 (by decide) (by decide) (fun _ => ?_) (fun c10 => absurd c10 (by decide))
    refine z_iconst dX12_hearse_25 ?_
    refine z_iret dX12_hearse_26 rfl ?_
    first | exact K | exact absurd hno (by omega)
