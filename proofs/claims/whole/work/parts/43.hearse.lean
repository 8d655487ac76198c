/-! HEARSE of the class -/
def hcx (h : ab_H) (g bg : Nat → Bool) (ln : Nat → Nat) (n : Nat) : Prop := zv h 15 0 = n ∧ n ≤ 20 ∧ zv h 15 3 ≤ 4 ∧ (∀ y, y < 20 → (g y = true ↔ ¬ zv h 18 y = 0)) ∧ (∀ y, y < 20 → (bg y = true ↔ zv h 37 y = y)) ∧ ∀ c, c < 20 → bg c = true → ∃ s : Nat, zv h 38 c = s ∧ (s : Int) < zv h 15 3 ∧ zv h 16 s = ln c ∧ ln c ≤ 9
theorem hcx_sm {h h' : ab_H} {g bg : Nat → Bool} {ln : Nat → Nat} {n : Nat} (s : sm [197] h h') (x : hcx h g bg ln n) : hcx h' g bg ln n := by
  obtain ⟨a, b, c, e, f, i⟩ := x
  have o : ∀ b j, b ≠ 197 → zv h' b j = zv h b j := fun b j hb => s.1 b j (by simp [hb])
  refine ⟨(o _ _ (by decide)).trans a, b, by rw [o _ _ (by decide)]; exact c, fun y hy => by rw [o _ _ (by decide)]; exact e y hy, fun y hy => by rw [o _ _ (by decide)]; exact f y hy, fun c hc hb => ?_⟩
  obtain ⟨t, t1, t2, t3, t4⟩ := i c hc hb
  exact ⟨t, by rw [o _ _ (by decide)]; exact t1, by rw [o _ _ (by decide)]; exact t2, by rw [o _ _ (by decide)]; exact t3, t4⟩
def F7 (h0 h : ab_H) : Prop := sm [197] h0 h ∧ ∀ j, j ≠ 2 → j ≠ 3 → zv h 197 j = zv h0 197 j
theorem F7_put {h0 h : ab_H} {x y : Int} (f : F7 h0 h) : F7 h0 (zp (zp h 197 2 x) 197 3 y) := ⟨(f.1.trans (sm_zp (by decide))).trans (sm_zp (by decide)), fun j a b => by rw [zv_zp_ne (by omega), zv_zp_ne (by omega)]; exact f.2 j a b⟩
theorem lp_gateless {d : Nat} {Q : ab_Q} {h0 : ab_H} {g bg : Nat → Bool} {ln : Nat → Nat} {n : Nat} {a b : Int} (hx : hcx h0 g bg ln n) (ha : -1000 ≤ a ∧ a ≤ 1000) (hb : -1000 ≤ b ∧ b ≤ 1000) (k1 : glb g n a b = true → Q (some (.int (iI 1))) h0) (k0 : ¬ glb g n a b = true → Q (some (.int (iI 0))) h0) : ∀ (nn : Nat) (y : Int) (h : ab_H), (b - y).toNat = nn → (h = h0) → (a ≤ y) → (y ≤ b ∨ y = a) → (∀ z : Int, a ≤ z → z < y → 0 ≤ z ∧ z < n ∧ g z.toNat = false) → ab_X (d + 2) mX4_gateless 2 [(0, .ref 197), (1, .int (iI a)), (2, .int (iI b)), (3, .int (iI y))] [] h Q := by
  intro nn
  induction nn using Nat.strongRecOn with
  | ind nn ih =>
  intro y h hnn hh h1 h2 hI
  subst hh
  have hn2 := hx.2.1
  have hn1 := hx.1
  refine ab_iload_n (k := 3) dX4_gateless_2 rfl rfl ?_
  refine ab_iload_n (k := 2) dX4_gateless_3 rfl rfl ?_
  refine z_icmp_ge (tgt := 26) dX4_gateless_4 (by decide) (by omega) (by omega) (fun c4 => ?_) (fun c4 => ?_)
  · skip
    refine z_iconst dX4_gateless_26 ?_
    refine z_zret dX4_gateless_27 rfl (Or.inr rfl) ?_
    first
    | exact k1 (glb_iff.mpr (fun z z1 z2 => hI z z1 (by omega)))
    | (refine k0 (fun q => ?_)
       have q2 := glb_iff.mp q y h1 (by omega)
       rcases gL with r | r
       · exact r ⟨q2.1, by omega⟩
       · have := (hx.2.2.2.1 y.toNat (by omega)).mpr r
         rw [q2.2.2] at this; exact absurd this (by decide))
  · skip
    refine ab_aload_n (k := 0) dX4_gateless_7 rfl rfl ?_
    refine z_getP (b := 15) dX4_gateless_8 fX4_9 rfl rfl rfl ?_
    refine ab_iload_n (k := 3) dX4_gateless_11 rfl rfl ?_
    refine ab_callV (As := [.int (iI y)]) (rest := []) dX4_gateless_12 lX4_70 rfl (Nat.le_of_ble_eq_true rfl) (Nat.le_of_ble_eq_true rfl) rfl ?_
    refine c_isWall (by omega) (by rw [hx.1]; have := hx.2.1; omega) (fun g12 => ?_) (fun g12 => ?_)
    · skip
      have gL := g12
      show ab_X (d + 2) mX4_gateless 15 [(0, .ref 197), (1, .int (iI a)), (2, .int (iI b)), (3, .int (iI y))] [.int (iI 1)] h _
      refine z_if_eq (tgt := 20) dX4_gateless_15 (by decide) (by decide) (fun c15 => absurd c15 (by decide)) (fun _ => ?_)
      refine z_iconst dX4_gateless_18 ?_
      refine z_zret dX4_gateless_19 rfl (Or.inl rfl) ?_
      first
      | exact k1 (glb_iff.mpr (fun z z1 z2 => hI z z1 (by omega)))
      | (refine k0 (fun q => ?_)
         have q2 := glb_iff.mp q y h1 (by omega)
         rcases gL with r | r
         · exact r ⟨q2.1, by omega⟩
         · have := (hx.2.2.2.1 y.toNat (by omega)).mpr r
           rw [q2.2.2] at this; exact absurd this (by decide))
    · skip
      have gL := g12
      show ab_X (d + 2) mX4_gateless 15 [(0, .ref 197), (1, .int (iI a)), (2, .int (iI b)), (3, .int (iI y))] [.int (iI 0)] h _
      refine z_if_eq (tgt := 20) dX4_gateless_15 (by decide) (by decide) (fun _ => ?_) (fun c15 => absurd c15 (by decide))
      refine z_iinc (k := 3) (v := y + 1) (ls' := [(3, .int (iI (y + 1))), (0, .ref 197), (1, .int (iI a)), (2, .int (iI b))]) dX4_gateless_20 rfl rfl (by decide) rfl ?_
      refine ab_goto (tgt := 2) dX4_gateless_23 (by decide) ?_
      refine ab_sub (ls' := [(0, .ref 197), (1, .int (iI a)), (2, .int (iI b)), (3, .int (iI (y + 1)))]) (ks := [1, 2, 3, 0]) rfl ?_
      refine ih _ (by omega) (y + 1) h rfl rfl (by omega) (Or.inl (by omega)) (fun z z1 z2 => ?_)
      by_cases e : z = y
      · subst e
        have r1 : 0 ≤ z ∧ z < zv h 15 0 := Decidable.byContradiction (fun r => gL (Or.inl r))
        refine ⟨r1.1, by omega, ?_⟩
        cases eg : g z.toNat with
        | false => rfl
        | true => exact absurd (Or.inr ((hx.2.2.2.1 z.toNat (by omega)).mp eg)) gL
      · exact hI z z1 (by omega)
theorem c_gateless {d : Nat} {h : ab_H} {Q : ab_Q} {g bg : Nat → Bool} {ln : Nat → Nat} {n : Nat} {a b : Int} (hx : hcx h g bg ln n) (ha : -1000 ≤ a ∧ a ≤ 1000) (hb : -1000 ≤ b ∧ b ≤ 1000) (k1 : glb g n a b = true → Q (some (.int (iI 1))) h) (k0 : ¬ glb g n a b = true → Q (some (.int (iI 0))) h) : ab_X (d + 2) mX4_gateless 0 (lv_args 0 [.ref 197, .int (iI a), .int (iI b)]) [] h Q := by
  show ab_X (d + 2) mX4_gateless 0 [(0, .ref 197), (1, .int (iI a)), (2, .int (iI b))] [] h Q
  refine ab_iload_n (k := 1) dX4_gateless_0 rfl rfl ?_
  refine ab_istore_n (ls' := [(3, .int (iI a)), (0, .ref 197), (1, .int (iI a)), (2, .int (iI b))]) dX4_gateless_1 rfl (by decide) rfl ?_
  refine ab_sub (ls' := [(0, .ref 197), (1, .int (iI a)), (2, .int (iI b)), (3, .int (iI a))]) (ks := [1, 2, 3, 0]) rfl ?_
  exact lp_gateless hx ha hb k1 k0 _ a h rfl rfl (by omega) (Or.inr rfl) (fun z z1 z2 => absurd z1 (by omega))
theorem c_lengthAt {d : Nat} {h : ab_H} {Q : ab_Q} {g bg : Nat → Bool} {ln : Nat → Nat} {n : Nat} {c : Nat} (hx : hcx h g bg ln n) (hc : c < 20) (hb : bg c = true) (K : Q (some (.int (iI (ln c : Int)))) h) : ab_X (d + 2) mX4_lengthAt 0 (lv_args 0 [.ref 197, .int (iI (c : Int))]) [] h Q := by
  show ab_X (d + 2) mX4_lengthAt 0 [(0, .ref 197), (1, .int (iI (c : Int)))] [] h Q
  refine ab_aload_n (k := 0) dX4_lengthAt_0 rfl rfl ?_
  refine z_getP (b := 15) dX4_lengthAt_1 fX4_9 rfl rfl rfl ?_
  refine ab_aload_n (k := 0) dX4_lengthAt_4 rfl rfl ?_
  refine z_getP (b := 36) dX4_lengthAt_5 fX4_15 rfl rfl rfl ?_
  refine ab_iload_n (k := 1) dX4_lengthAt_8 rfl rfl ?_
  refine ab_callV (As := [.int (iI (c : Int))]) (rest := [.ref 15]) dX4_lengthAt_9 lX4_64 rfl (Nat.le_of_ble_eq_true rfl) (Nat.le_of_ble_eq_true rfl) rfl ?_
  obtain ⟨s, hs1, hs2, hs3, hs4⟩ := hx.2.2.2.2.2 c hc hb
  refine c_sortAt (by omega) (fun _ => ?_) (fun q => absurd (show _ from ⟨by omega, by omega⟩) q)
  rw [show zv h 38 ((c : Nat) : Int).toNat = (s : Int) from hs1]
  show ab_X (d + 2) mX4_lengthAt 12 [(0, .ref 197), (1, .int (iI (c : Int)))] [.int (iI (s : Int)), .ref 15] h _
  refine ab_callV (As := [.int (iI (s : Int))]) (rest := []) dX4_lengthAt_12 lX4_67 rfl (Nat.le_of_ble_eq_true rfl) (Nat.le_of_ble_eq_true rfl) rfl ?_
  refine c_lengthOf (by have := hx.2.2.1; omega) hx.2.2.1 (fun _ => ?_) (fun q => absurd (show _ from ⟨by omega, hs2⟩) q)
  rw [show zv h 16 ((s : Nat) : Int).toNat = (ln c : Int) from hs3]
  show ab_X (d + 2) mX4_lengthAt 15 [(0, .ref 197), (1, .int (iI (c : Int)))] [.int (iI (ln c : Int))] h _
  refine z_iret dX4_lengthAt_15 rfl ?_
  exact K
theorem c_isAhead {d : Nat} {h : ab_H} {Q : ab_Q} {g bg : Nat → Bool} {ln : Nat → Nat} {n : Nat} {c p l : Nat} (hx : hcx h g bg ln n) (hc : c < 20) (hb : bg c = true) (hp : p ≤ 20 ∧ l ≤ 9) (k1 : ahd ln p l c = true → Q (some (.int (iI 1))) h) (k0 : ¬ ahd ln p l c = true → Q (some (.int (iI 0))) h) : ab_X (d + 3) mX4_isAhead 0 (lv_args 0 [.ref 197, .int (iI (c : Int)), .int (iI (p : Int)), .int (iI (l : Int))]) [] h Q := by
  show ab_X (d + 3) mX4_isAhead 0 [(0, .ref 197), (1, .int (iI (c : Int))), (2, .int (iI (p : Int))), (3, .int (iI (l : Int)))] [] h Q
  refine z_iconst dX4_isAhead_0 ?_
  refine ab_iload_n (k := 1) dX4_isAhead_1 rfl rfl ?_
  refine z_imul dX4_isAhead_2 ?_
  refine ab_aload_n (k := 0) dX4_isAhead_3 rfl rfl ?_
  refine ab_iload_n (k := 1) dX4_isAhead_4 rfl rfl ?_
  refine ab_callV (As := [.int (iI (c : Int))]) (rest := [.int (iI (2 * (c : Int)))]) dX4_isAhead_5 lX4_60 rfl (Nat.le_of_ble_eq_true rfl) (Nat.le_of_ble_eq_true rfl) rfl ?_
  have hlc : ln c ≤ 9 := by obtain ⟨_, _, _, _, q⟩ := hx.2.2.2.2.2 c hc hb; exact q
  refine c_lengthAt hx hc hb ?_
  show ab_X (d + 3) mX4_isAhead 8 [(0, .ref 197), (1, .int (iI (c : Int))), (2, .int (iI (p : Int))), (3, .int (iI (l : Int)))] [.int (iI (ln c : Int)), .int (iI (2 * (c : Int)))] h _
  refine z_iadd dX4_isAhead_8 ?_
  refine z_iconst dX4_isAhead_9 ?_
  refine ab_iload_n (k := 2) dX4_isAhead_10 rfl rfl ?_
  refine z_imul dX4_isAhead_11 ?_
  refine ab_iload_n (k := 3) dX4_isAhead_12 rfl rfl ?_
  refine z_iadd dX4_isAhead_13 ?_
  refine z_icmp_ge (tgt := 21) dX4_isAhead_14 (by decide) (by omega) (by omega) (fun c14 => ?_) (fun c14 => ?_)
  · skip
    refine z_iconst dX4_isAhead_21 ?_
    refine z_zret dX4_isAhead_22 rfl (Or.inl rfl) ?_
    first | exact k1 (ahd_iff.mpr (by omega)) | exact k0 (fun q => absurd (ahd_iff.mp q) (by omega))
  · skip
    refine z_iconst dX4_isAhead_17 ?_
    refine ab_goto (tgt := 22) dX4_isAhead_18 (by decide) ?_
    refine z_zret dX4_isAhead_22 rfl (Or.inr rfl) ?_
    first | exact k1 (ahd_iff.mpr (by omega)) | exact k0 (fun q => absurd (ahd_iff.mp q) (by omega))
theorem lp_pushDown {d : Nat} {Q : ab_Q} {h0 : ab_H} {g bg : Nat → Bool} {ln : Nat → Nat} {n : Nat} {p l : Nat} {R : Option (Int × Int)} (hx0 : hcx h0 g bg ln n) (hp : p ≤ 20 ∧ l ≤ 9) (cx : CX g bg ln n) (k1 : ∀ h', F7 h0 h' → R = some (zv h' 197 2, zv h' 197 3) → (0 ≤ zv h' 197 2 ∧ zv h' 197 2 ≤ 2000) → (0 ≤ zv h' 197 3 ∧ zv h' 197 3 ≤ 60) → Q (some (.int (iI 1))) h') (k0 : ∀ h', F7 h0 h' → R = none → Q (some (.int (iI 0))) h') : ∀ (nn : Nat) (y : Nat) (lim : Int) (h : ab_H), y = nn → (y ≤ 20) → (F7 h0 h) → (0 ≤ lim ∧ lim ≤ 29) → (0 ≤ zv h 197 2 ∧ zv h 197 2 + 40 * y ≤ 2000) → (0 ≤ zv h 197 3 ∧ zv h 197 3 + y ≤ 60) → (pD bg (ahd ln p l) ln (glb g n) y lim (zv h 197 2) (zv h 197 3) = R) → ab_X (d + 4) mX4_pushDown 13 [(0, .ref 197), (1, .int (iI (p : Int))), (2, .int (iI (l : Int))), (3, .int (iI lim)), (4, .int (iI ((y : Int) - 1)))] [] h Q := by
  intro nn
  induction nn using Nat.strongRecOn with
  | ind nn ih =>
  intro y lim h hnn h2 hF hl hm hm3 hR
  have hx := hcx_sm hF.1 hx0
  have hn2 := hx.2.1
  refine ab_iload (k := 4) dX4_pushDown_13 rfl ?_
  refine z_if_lt (tgt := 110) dX4_pushDown_15 (by decide) (by omega) (fun c15 => ?_) (fun c15 => ?_)
  · skip
    refine z_iconst dX4_pushDown_110 ?_
    refine z_zret dX4_pushDown_111 rfl (Or.inr rfl) ?_
    have e : y = 0 := by omega
    subst e
    exact k1 h hF hR.symm (by omega) (by omega)
  · skip
    refine ab_sub (ls' := [(0, .ref 197), (1, .int (iI (p : Int))), (2, .int (iI (l : Int))), (3, .int (iI lim)), (4, .int (iI ((y : Int) - 1)))]) (ks := [0, 1, 2, 3, 4]) rfl ?_
    obtain ⟨c, rfl⟩ : ∃ c, y = c + 1 := ⟨y - 1, by omega⟩
    have hc : c < 20 := by omega
    rw [show ((c + 1 : Nat) : Int) - 1 = (c : Int) by omega]
    refine ab_aload_n (k := 0) dX4_pushDown_18 rfl rfl ?_
    refine z_getP (b := 36) dX4_pushDown_19 fX4_15 rfl rfl rfl ?_
    refine ab_iload (k := 4) dX4_pushDown_22 rfl ?_
    refine ab_callV (As := [.int (iI (c : Int))]) (rest := []) dX4_pushDown_24 lX4_50 rfl (Nat.le_of_ble_eq_true rfl) (Nat.le_of_ble_eq_true rfl) rfl ?_
    refine c_beginsAt (by omega) (fun g24 => ?_) (fun g24 => ?_)
    · skip
      simp only [Int.toNat_natCast] at g24
      have hb : bg c = true := (hx.2.2.2.2.1 c hc).mpr g24.2.2
      have hlc : ln c ≤ 9 := by obtain ⟨_, _, _, _, q⟩ := hx.2.2.2.2.2 c hc hb; exact q
      show ab_X (d + 4) mX4_pushDown 27 [(0, .ref 197), (1, .int (iI (p : Int))), (2, .int (iI (l : Int))), (3, .int (iI lim)), (4, .int (iI (c : Int)))] [.int (iI 1)] h _
      refine z_if_eq (tgt := 104) dX4_pushDown_27 (by decide) (by decide) (fun c27 => absurd c27 (by decide)) (fun _ => ?_)
      refine ab_aload_n (k := 0) dX4_pushDown_30 rfl rfl ?_
      refine ab_iload (k := 4) dX4_pushDown_31 rfl ?_
      refine ab_iload_n (k := 1) dX4_pushDown_33 rfl rfl ?_
      refine ab_iload_n (k := 2) dX4_pushDown_34 rfl rfl ?_
      refine ab_callV (As := [.int (iI (c : Int)), .int (iI (p : Int)), .int (iI (l : Int))]) (rest := []) dX4_pushDown_35 lX4_56 rfl (Nat.le_of_ble_eq_true rfl) (Nat.le_of_ble_eq_true rfl) rfl ?_
      refine c_isAhead hx hc hb (by omega) (fun ga => ?_) (fun ga => ?_)
      · skip
        show ab_X (d + 4) mX4_pushDown 38 [(0, .ref 197), (1, .int (iI (p : Int))), (2, .int (iI (l : Int))), (3, .int (iI lim)), (4, .int (iI (c : Int)))] [.int (iI 1)] h _
        refine z_if_eq (tgt := 104) dX4_pushDown_38 (by decide) (by decide) (fun c38 => absurd c38 (by decide)) (fun _ => ?_)
        refine ab_iload (k := 4) dX4_pushDown_41 rfl ?_
        refine ab_aload_n (k := 0) dX4_pushDown_43 rfl rfl ?_
        refine ab_iload (k := 4) dX4_pushDown_44 rfl ?_
        refine ab_callV (As := [.int (iI (c : Int))]) (rest := [.int (iI (c : Int))]) dX4_pushDown_46 lX4_60 rfl (Nat.le_of_ble_eq_true rfl) (Nat.le_of_ble_eq_true rfl) rfl ?_
        have hlc : ln c ≤ 9 := by obtain ⟨_, _, _, _, q⟩ := hx.2.2.2.2.2 c hc hb; exact q
        refine c_lengthAt hx hc hb ?_
        show ab_X (d + 4) mX4_pushDown 49 [(0, .ref 197), (1, .int (iI (p : Int))), (2, .int (iI (l : Int))), (3, .int (iI lim)), (4, .int (iI (c : Int)))] [.int (iI (ln c : Int)), .int (iI (c : Int))] h _
        refine z_iadd dX4_pushDown_49 ?_
        refine ab_iload_n (k := 3) dX4_pushDown_50 rfl rfl ?_
        refine z_isub dX4_pushDown_51 ?_
        refine ab_istore (ls' := [(5, .int (iI (((c : Int) + (ln c : Int)) - lim))), (0, .ref 197), (1, .int (iI (p : Int))), (2, .int (iI (l : Int))), (3, .int (iI lim)), (4, .int (iI (c : Int)))]) dX4_pushDown_52 (by decide) rfl ?_
        refine ab_iload (k := 0) dX4_pushDown_54 rfl ?_
        refine z_if_gt (tgt := 61) dX4_pushDown_56 (by decide) (by omega) (fun c56 => ?_) (fun c56 => ?_)
        · skip
          refine ab_aload_n (k := 1) dX4_pushDown_61 rfl rfl ?_
          refine ab_iload (k := 5) dX4_pushDown_62 rfl ?_
          refine ab_iload (k := 0) dX4_pushDown_64 rfl ?_
          refine z_isub dX4_pushDown_66 ?_
          refine z_is (y := lim - (ln c : Int)) (by omega) ?_
          refine ab_iload (k := 5) dX4_pushDown_67 rfl ?_
          refine ab_callV (As := [.int (iI (lim - (ln c : Int))), .int (iI (c : Int))]) (rest := []) dX4_pushDown_69 lX4_40 rfl (Nat.le_of_ble_eq_true rfl) (Nat.le_of_ble_eq_true rfl) rfl ?_
          refine c_gateless hx (by omega) (by omega) (fun gg => ?_) (fun gg => ?_)
          · skip
            show ab_X (d + 4) mX4_pushDown 72 [(5, .int (iI (((c : Int) + (ln c : Int)) - lim))), (0, .ref 197), (1, .int (iI (p : Int))), (2, .int (iI (l : Int))), (3, .int (iI lim)), (4, .int (iI (c : Int)))] [.int (iI 1)] h _
            refine z_if_ne (tgt := 77) dX4_pushDown_72 (by decide) (by decide) (fun _ => ?_) (fun c72 => absurd c72 (by decide))
            refine ab_iload (k := 5) dX4_pushDown_77 rfl ?_
            refine ab_iload (k := 0) dX4_pushDown_79 rfl ?_
            refine z_isub dX4_pushDown_81 ?_
            refine z_is (y := lim - (ln c : Int)) (by omega) ?_
            refine ab_istore_n (ls' := [(3, .int (iI (lim - (ln c : Int)))), (5, .int (iI (((c : Int) + (ln c : Int)) - lim))), (0, .ref 197), (1, .int (iI (p : Int))), (2, .int (iI (l : Int))), (4, .int (iI (c : Int)))]) dX4_pushDown_82 rfl (by decide) rfl ?_
            refine ab_aload_n (k := 2) dX4_pushDown_83 rfl rfl ?_
            refine ab_dup dX4_pushDown_84 rfl ?_
            refine z_getI dX4_pushDown_85 fX4_34 rfl (Or.inl rfl) ?_
            have b1 := zv_R h 197 2
            refine ab_iload (k := 1) dX4_pushDown_88 rfl ?_
            refine z_iadd dX4_pushDown_90 ?_
            refine z_putI dX4_pushDown_91 fX4_34 rfl rfl ?_
            refine ab_aload_n (k := 2) dX4_pushDown_94 rfl rfl ?_
            refine ab_dup dX4_pushDown_95 rfl ?_
            refine z_getI dX4_pushDown_96 fX4_37 rfl (Or.inl rfl) ?_
            refine z_is (y := zv h 197 3) (zv_zp_ne (by decide)) ?_
            have b2 := zv_R h 197 3
            refine z_iconst dX4_pushDown_99 ?_
            refine z_iadd dX4_pushDown_100 ?_
            refine z_putI dX4_pushDown_101 fX4_37 rfl rfl ?_
            refine z_iinc (k := 5) (v := (c : Int) + (-1)) (ls' := [(4, .int (iI ((c : Int) + (-1)))), (3, .int (iI (lim - (ln c : Int)))), (5, .int (iI (((c : Int) + (ln c : Int)) - lim))), (0, .ref 197), (1, .int (iI (p : Int))), (2, .int (iI (l : Int)))]) dX4_pushDown_104 rfl rfl (by decide) rfl ?_
            refine ab_goto (tgt := 13) dX4_pushDown_107 (by decide) ?_
            refine ab_sub (ls' := [(0, .ref 197), (1, .int (iI (p : Int))), (2, .int (iI (l : Int))), (3, .int (iI (lim - (ln c : Int)))), (4, .int (iI ((c : Int) + (-1))))]) (ks := [3, 4, 5, 1, 0]) rfl ?_
            first
            | (refine ih _ (by omega) c lim h rfl (by omega) hF (by omega) (by omega) (by omega) ?_
               rw [← hR, pD_n (fun q => hb q.1)])
            | (refine ih _ (by omega) c lim h rfl (by omega) hF (by omega) (by omega) (by omega) ?_
               rw [← hR, pD_n (fun q => ga q.2)])
            | (have gl1 := glb_iff.mp gg (lim - (ln c : Int)) (by omega) (by omega)
               refine ih _ (by omega) c _ _ rfl (by omega) (F7_put hF) (by omega) ?_ ?_ ?_
               · rw [zv_zp_ne (by decide), zv_zp_s (by omega)]; omega
               · rw [zv_zp_s (by omega)]; omega
               · rw [← hR, pD_t (to := lim - (ln c : Int)) ⟨hb, ga⟩ (by omega) gg, if_neg (by omega), zv_zp_ne (by decide), zv_zp_s (by omega), zv_zp_s (by omega)]
                 congr 2; omega)
          · skip
            show ab_X (d + 4) mX4_pushDown 72 [(5, .int (iI (((c : Int) + (ln c : Int)) - lim))), (0, .ref 197), (1, .int (iI (p : Int))), (2, .int (iI (l : Int))), (3, .int (iI lim)), (4, .int (iI (c : Int)))] [.int (iI 0)] h _
            refine z_if_ne (tgt := 77) dX4_pushDown_72 (by decide) (by decide) (fun c72 => absurd c72 (by decide)) (fun _ => ?_)
            refine z_iconst dX4_pushDown_75 ?_
            refine z_zret dX4_pushDown_76 rfl (Or.inl rfl) ?_
            first
            | (refine k1 h hF ?_ (by omega) (by omega)
               rw [← hR, pD_t (to := (c : Int)) ⟨hb, ga⟩ (by omega) glb_self, if_pos rfl, Int.sub_self, Int.add_zero, Int.add_zero]
               exact pD_q cx c (by omega) c (fun z hz hbz => by have := (cx c hc hb).2.2.2.2 z (by omega) hbz hz; omega))
            | (refine k0 h hF ?_
               rw [← hR, pD_f ⟨hb, ga⟩ (by rw [show min (c : Int) (lim - (ln c : Int)) = lim - (ln c : Int) by omega]; exact gg)])
        · skip
          refine z_iconst dX4_pushDown_59 ?_
          refine z_zret dX4_pushDown_60 rfl (Or.inr rfl) ?_
          first
          | (refine k1 h hF ?_ (by omega) (by omega)
             rw [← hR, pD_t (to := (c : Int)) ⟨hb, ga⟩ (by omega) glb_self, if_pos rfl, Int.sub_self, Int.add_zero, Int.add_zero]
             exact pD_q cx c (by omega) c (fun z hz hbz => by have := (cx c hc hb).2.2.2.2 z (by omega) hbz hz; omega))
          | (refine k0 h hF ?_
             rw [← hR, pD_f ⟨hb, ga⟩ (by rw [show min (c : Int) (lim - (ln c : Int)) = lim - (ln c : Int) by omega]; exact gg)])
      · skip
        show ab_X (d + 4) mX4_pushDown 38 [(0, .ref 197), (1, .int (iI (p : Int))), (2, .int (iI (l : Int))), (3, .int (iI lim)), (4, .int (iI (c : Int)))] [.int (iI 0)] h _
        refine z_if_eq (tgt := 104) dX4_pushDown_38 (by decide) (by decide) (fun _ => ?_) (fun c38 => absurd c38 (by decide))
        refine z_iinc (k := 4) (v := (c : Int) + (-1)) (ls' := [(4, .int (iI ((c : Int) + (-1)))), (0, .ref 197), (1, .int (iI (p : Int))), (2, .int (iI (l : Int))), (3, .int (iI lim))]) dX4_pushDown_104 rfl rfl (by decide) rfl ?_
        refine ab_goto (tgt := 13) dX4_pushDown_107 (by decide) ?_
        refine ab_sub (ls' := [(0, .ref 197), (1, .int (iI (p : Int))), (2, .int (iI (l : Int))), (3, .int (iI lim)), (4, .int (iI ((c : Int) + (-1))))]) (ks := [1, 2, 3, 4, 0]) rfl ?_
        first
        | (refine ih _ (by omega) c lim h rfl (by omega) hF (by omega) (by omega) (by omega) ?_
           rw [← hR, pD_n (fun q => hb q.1)])
        | (refine ih _ (by omega) c lim h rfl (by omega) hF (by omega) (by omega) (by omega) ?_
           rw [← hR, pD_n (fun q => ga q.2)])
        | (have gl1 := glb_iff.mp gg (lim - (ln c : Int)) (by omega) (by omega)
           refine ih _ (by omega) c _ _ rfl (by omega) (F7_put hF) (by omega) ?_ ?_ ?_
           · rw [zv_zp_ne (by decide), zv_zp_s (by omega)]; omega
           · rw [zv_zp_s (by omega)]; omega
           · rw [← hR, pD_t (to := lim - (ln c : Int)) ⟨hb, ga⟩ (by omega) gg, if_neg (by omega), zv_zp_ne (by decide), zv_zp_s (by omega), zv_zp_s (by omega)]
             congr 2; omega)
    · skip
      simp only [Int.toNat_natCast] at g24
      have hb : ¬ bg c = true := fun q => g24 ⟨by omega, by omega, (hx.2.2.2.2.1 c hc).mp q⟩
      show ab_X (d + 4) mX4_pushDown 27 [(0, .ref 197), (1, .int (iI (p : Int))), (2, .int (iI (l : Int))), (3, .int (iI lim)), (4, .int (iI (c : Int)))] [.int (iI 0)] h _
      refine z_if_eq (tgt := 104) dX4_pushDown_27 (by decide) (by decide) (fun _ => ?_) (fun c27 => absurd c27 (by decide))
      refine z_iinc (k := 4) (v := (c : Int) + (-1)) (ls' := [(4, .int (iI ((c : Int) + (-1)))), (0, .ref 197), (1, .int (iI (p : Int))), (2, .int (iI (l : Int))), (3, .int (iI lim))]) dX4_pushDown_104 rfl rfl (by decide) rfl ?_
      refine ab_goto (tgt := 13) dX4_pushDown_107 (by decide) ?_
      refine ab_sub (ls' := [(0, .ref 197), (1, .int (iI (p : Int))), (2, .int (iI (l : Int))), (3, .int (iI lim)), (4, .int (iI ((c : Int) + (-1))))]) (ks := [1, 2, 3, 4, 0]) rfl ?_
      first
      | (refine ih _ (by omega) c lim h rfl (by omega) hF (by omega) (by omega) (by omega) ?_
         rw [← hR, pD_n (fun q => hb q.1)])
      | (refine ih _ (by omega) c lim h rfl (by omega) hF (by omega) (by omega) (by omega) ?_
         rw [← hR, pD_n (fun q => ga q.2)])
      | (have gl1 := glb_iff.mp gg (lim - (ln c : Int)) (by omega) (by omega)
         refine ih _ (by omega) c _ _ rfl (by omega) (F7_put hF) (by omega) ?_ ?_ ?_
         · rw [zv_zp_ne (by decide), zv_zp_s (by omega)]; omega
         · rw [zv_zp_s (by omega)]; omega
         · rw [← hR, pD_t (to := lim - (ln c : Int)) ⟨hb, ga⟩ (by omega) gg, if_neg (by omega), zv_zp_ne (by decide), zv_zp_s (by omega), zv_zp_s (by omega)]
           congr 2; omega)
theorem c_pushDown {d : Nat} {h : ab_H} {Q : ab_Q} {g bg : Nat → Bool} {ln : Nat → Nat} {n : Nat} {p l : Nat} {R : Option (Int × Int)} (hx : hcx h g bg ln n) (hp : p ≤ 20 ∧ l ≤ 9) (cx : CX g bg ln n) (hz : zv h 197 2 = 0 ∧ zv h 197 3 = 0) (hR : pD bg (ahd ln p l) ln (glb g n) n p 0 0 = R) (k1 : ∀ h', F7 h h' → R = some (zv h' 197 2, zv h' 197 3) → (0 ≤ zv h' 197 2 ∧ zv h' 197 2 ≤ 2000) → (0 ≤ zv h' 197 3 ∧ zv h' 197 3 ≤ 60) → Q (some (.int (iI 1))) h') (k0 : ∀ h', F7 h h' → R = none → Q (some (.int (iI 0))) h') : ab_X (d + 4) mX4_pushDown 0 (lv_args 0 [.ref 197, .int (iI (p : Int)), .int (iI (l : Int))]) [] h Q := by
  show ab_X (d + 4) mX4_pushDown 0 [(0, .ref 197), (1, .int (iI (p : Int))), (2, .int (iI (l : Int)))] [] h Q
  have hn2 := hx.2.1
  refine ab_iload_n (k := 1) dX4_pushDown_0 rfl rfl ?_
  refine ab_istore_n (ls' := [(3, .int (iI (p : Int))), (0, .ref 197), (1, .int (iI (p : Int))), (2, .int (iI (l : Int)))]) dX4_pushDown_1 rfl (by decide) rfl ?_
  refine ab_aload_n (k := 1) dX4_pushDown_2 rfl rfl ?_
  refine z_getP (b := 15) dX4_pushDown_3 fX4_9 rfl rfl rfl ?_
  refine z_getI dX4_pushDown_6 fX4_29 rfl (Or.inl rfl) ?_
  refine z_is (y := (n : Int)) hx.1 ?_
  refine z_iconst dX4_pushDown_9 ?_
  refine z_isub dX4_pushDown_10 ?_
  refine ab_istore (ls' := [(4, .int (iI ((n : Int) - 1))), (3, .int (iI (p : Int))), (0, .ref 197), (1, .int (iI (p : Int))), (2, .int (iI (l : Int)))]) dX4_pushDown_11 (by decide) rfl ?_
  refine ab_sub (ls' := [(0, .ref 197), (1, .int (iI (p : Int))), (2, .int (iI (l : Int))), (3, .int (iI (p : Int))), (4, .int (iI ((n : Int) - 1)))]) (ks := [2, 3, 4, 1, 0]) rfl ?_
  exact lp_pushDown hx hp cx k1 k0 _ n p h rfl hn2 ⟨sm.refl, fun _ _ _ => rfl⟩ (by omega) (by omega) (by omega) (by rw [hz.1, hz.2]; exact hR)
theorem lp_pushUp {d : Nat} {Q : ab_Q} {h0 : ab_H} {g bg : Nat → Bool} {ln : Nat → Nat} {n : Nat} {p l : Nat} {R : Option (Int × Int)} (hx0 : hcx h0 g bg ln n) (hp : p ≤ 20 ∧ l ≤ 9) (cx : CX g bg ln n) (k1 : ∀ h', F7 h0 h' → R = some (zv h' 197 2, zv h' 197 3) → (0 ≤ zv h' 197 2 ∧ zv h' 197 2 ≤ 4000) → (0 ≤ zv h' 197 3 ∧ zv h' 197 3 ≤ 100) → Q (some (.int (iI 1))) h') (k0 : ∀ h', F7 h0 h' → R = none → Q (some (.int (iI 0))) h') : ∀ (nn : Nat) (c : Nat) (lim : Int) (h : ab_H), n - c = nn → (c ≤ n) → (F7 h0 h) → (0 ≤ lim ∧ lim ≤ 29) → (0 ≤ zv h 197 2 ∧ zv h 197 2 + 40 * (n - c : Nat) ≤ 4000) → (0 ≤ zv h 197 3 ∧ zv h 197 3 + (n - c : Nat) ≤ 100) → (pU2 bg (ahd ln p l) ln (glb g n) n (n - c) lim (zv h 197 2) (zv h 197 3) = R) → ab_X (d + 4) mX4_pushUp 7 [(0, .ref 197), (1, .int (iI (p : Int))), (2, .int (iI (l : Int))), (3, .int (iI lim)), (4, .int (iI (c : Int)))] [] h Q := by
  intro nn
  induction nn using Nat.strongRecOn with
  | ind nn ih =>
  intro c lim h hnn h2 hF hl hm hm3 hR
  have hx := hcx_sm hF.1 hx0
  have hn2 := hx.2.1
  refine ab_iload (k := 4) dX4_pushUp_7 rfl ?_
  refine ab_aload_n (k := 0) dX4_pushUp_9 rfl rfl ?_
  refine z_getP (b := 15) dX4_pushUp_10 fX4_9 rfl rfl rfl ?_
  refine z_getI dX4_pushUp_13 fX4_29 rfl (Or.inl rfl) ?_
  refine z_is (y := (n : Int)) hx.1 ?_
  refine z_icmp_ge (tgt := 115) dX4_pushUp_16 (by decide) (by omega) (by omega) (fun c16 => ?_) (fun c16 => ?_)
  · skip
    refine z_iconst dX4_pushUp_115 ?_
    refine z_zret dX4_pushUp_116 rfl (Or.inr rfl) ?_
    first
    | (have e : c = n := by omega
       subst e
       rw [Nat.sub_self] at hR
       exact k1 h hF hR.symm (by omega) (by omega))
    | (refine k1 h hF ?_ (by omega) (by omega)
       rw [← hR, pU2_t (to := (c : Int)) (by omega) ⟨hb, ga⟩ (by omega) glb_self, if_pos rfl, Int.sub_self, Int.add_zero, Int.add_zero]
       exact pU2_q hn2 cx _ (by omega) _ (fun z hz hz2 hbz => by have := (cx z (by omega) hbz).2.2.2.2 c hc hb (by omega); omega))
    | (refine k0 h hF ?_
       rw [← hR, pU2_f (by omega) ⟨hb, ga⟩ (by rw [show max (c : Int) lim = lim by omega]; exact gg)])
  · skip
    have hc : c < 20 := by omega
    refine ab_aload_n (k := 0) dX4_pushUp_19 rfl rfl ?_
    refine z_getP (b := 36) dX4_pushUp_20 fX4_15 rfl rfl rfl ?_
    refine ab_iload (k := 4) dX4_pushUp_23 rfl ?_
    refine ab_callV (As := [.int (iI (c : Int))]) (rest := []) dX4_pushUp_25 lX4_50 rfl (Nat.le_of_ble_eq_true rfl) (Nat.le_of_ble_eq_true rfl) rfl ?_
    refine c_beginsAt (by omega) (fun g25 => ?_) (fun g25 => ?_)
    · skip
      simp only [Int.toNat_natCast] at g25
      have hb : bg c = true := (hx.2.2.2.2.1 c hc).mpr g25.2.2
      have hlc : ln c ≤ 9 := by obtain ⟨_, _, _, _, q⟩ := hx.2.2.2.2.2 c hc hb; exact q
      show ab_X (d + 4) mX4_pushUp 28 [(0, .ref 197), (1, .int (iI (p : Int))), (2, .int (iI (l : Int))), (3, .int (iI lim)), (4, .int (iI (c : Int)))] [.int (iI 1)] h _
      refine z_if_eq (tgt := 109) dX4_pushUp_28 (by decide) (by decide) (fun c28 => absurd c28 (by decide)) (fun _ => ?_)
      refine ab_aload_n (k := 0) dX4_pushUp_31 rfl rfl ?_
      refine ab_iload (k := 4) dX4_pushUp_32 rfl ?_
      refine ab_iload_n (k := 1) dX4_pushUp_34 rfl rfl ?_
      refine ab_iload_n (k := 2) dX4_pushUp_35 rfl rfl ?_
      refine ab_callV (As := [.int (iI (c : Int)), .int (iI (p : Int)), .int (iI (l : Int))]) (rest := []) dX4_pushUp_36 lX4_56 rfl (Nat.le_of_ble_eq_true rfl) (Nat.le_of_ble_eq_true rfl) rfl ?_
      refine c_isAhead hx hc hb (by omega) (fun ga => ?_) (fun ga => ?_)
      · skip
        show ab_X (d + 4) mX4_pushUp 39 [(0, .ref 197), (1, .int (iI (p : Int))), (2, .int (iI (l : Int))), (3, .int (iI lim)), (4, .int (iI (c : Int)))] [.int (iI 1)] h _
        refine z_if_ne (tgt := 109) dX4_pushUp_39 (by decide) (by decide) (fun _ => ?_) (fun c39 => absurd c39 (by decide))
        refine z_iinc (k := 4) (v := (c : Int) + 1) (ls' := [(4, .int (iI ((c : Int) + 1))), (0, .ref 197), (1, .int (iI (p : Int))), (2, .int (iI (l : Int))), (3, .int (iI lim))]) dX4_pushUp_109 rfl rfl (by decide) rfl ?_
        refine ab_goto (tgt := 7) dX4_pushUp_112 (by decide) ?_
        refine ab_sub (ls' := [(0, .ref 197), (1, .int (iI (p : Int))), (2, .int (iI (l : Int))), (3, .int (iI lim)), (4, .int (iI ((c : Int) + 1)))]) (ks := [1, 2, 3, 4, 0]) rfl ?_
        first
        | (refine ih _ (by omega) (c + 1) lim h rfl (by omega) hF (by omega) (by omega) (by omega) ?_
           rw [← hR, pU2_n (by omega) (fun q => hb q.1)])
        | (refine ih _ (by omega) (c + 1) lim h rfl (by omega) hF (by omega) (by omega) (by omega) ?_
           rw [← hR, pU2_n (by omega) (fun q => q.2 ga)])
        | (have gl1 := glb_iff.mp gg (lim + (ln c : Int) - 1) (by omega) (by omega)
           refine ih _ (by omega) (c + 1) _ _ rfl (by omega) (F7_put hF) (by omega) ?_ ?_ ?_
           · rw [zv_zp_ne (by decide), zv_zp_s (by omega)]; omega
           · rw [zv_zp_s (by omega)]; omega
           · rw [← hR, pU2_t (to := lim) (by omega) ⟨hb, ga⟩ (by omega) gg, if_neg (by omega), zv_zp_ne (by decide), zv_zp_s (by omega), zv_zp_s (by omega)])
      · skip
        show ab_X (d + 4) mX4_pushUp 39 [(0, .ref 197), (1, .int (iI (p : Int))), (2, .int (iI (l : Int))), (3, .int (iI lim)), (4, .int (iI (c : Int)))] [.int (iI 0)] h _
        refine z_if_ne (tgt := 109) dX4_pushUp_39 (by decide) (by decide) (fun c39 => absurd c39 (by decide)) (fun _ => ?_)
        refine ab_iload_n (k := 3) dX4_pushUp_42 rfl rfl ?_
        refine ab_iload (k := 4) dX4_pushUp_43 rfl ?_
        refine z_isub dX4_pushUp_45 ?_
        refine ab_istore (ls' := [(5, .int (iI (lim - (c : Int)))), (0, .ref 197), (1, .int (iI (p : Int))), (2, .int (iI (l : Int))), (3, .int (iI lim)), (4, .int (iI (c : Int)))]) dX4_pushUp_46 (by decide) rfl ?_
        refine ab_iload (k := 0) dX4_pushUp_48 rfl ?_
        refine z_if_gt (tgt := 55) dX4_pushUp_50 (by decide) (by omega) (fun c50 => ?_) (fun c50 => ?_)
        · skip
          refine ab_iload (k := 5) dX4_pushUp_55 rfl ?_
          refine ab_aload_n (k := 1) dX4_pushUp_57 rfl rfl ?_
          refine ab_iload (k := 5) dX4_pushUp_58 rfl ?_
          refine ab_callV (As := [.int (iI (c : Int))]) (rest := [.int (iI (c : Int))]) dX4_pushUp_60 lX4_60 rfl (Nat.le_of_ble_eq_true rfl) (Nat.le_of_ble_eq_true rfl) rfl ?_
          have hlc : ln c ≤ 9 := by obtain ⟨_, _, _, _, q⟩ := hx.2.2.2.2.2 c hc hb; exact q
          refine c_lengthAt hx hc hb ?_
          show ab_X (d + 4) mX4_pushUp 63 [(5, .int (iI (lim - (c : Int)))), (0, .ref 197), (1, .int (iI (p : Int))), (2, .int (iI (l : Int))), (3, .int (iI lim)), (4, .int (iI (c : Int)))] [.int (iI (ln c : Int)), .int (iI (c : Int))] h _
          refine z_iadd dX4_pushUp_63 ?_
          refine ab_istore (ls' := [(6, .int (iI ((c : Int) + (ln c : Int)))), (5, .int (iI (lim - (c : Int)))), (0, .ref 197), (1, .int (iI (p : Int))), (2, .int (iI (l : Int))), (3, .int (iI lim)), (4, .int (iI (c : Int)))]) dX4_pushUp_64 (by decide) rfl ?_
          refine ab_aload_n (k := 2) dX4_pushUp_66 rfl rfl ?_
          refine ab_iload (k := 0) dX4_pushUp_67 rfl ?_
          refine ab_iload (k := 0) dX4_pushUp_69 rfl ?_
          refine ab_iload (k := 1) dX4_pushUp_71 rfl ?_
          refine z_iadd dX4_pushUp_73 ?_
          refine z_is (y := lim + (ln c : Int)) (by omega) ?_
          refine ab_callV (As := [.int (iI ((c : Int) + (ln c : Int))), .int (iI (lim + (ln c : Int)))]) (rest := []) dX4_pushUp_74 lX4_40 rfl (Nat.le_of_ble_eq_true rfl) (Nat.le_of_ble_eq_true rfl) rfl ?_
          refine c_gateless hx (by omega) (by omega) (fun gg => ?_) (fun gg => ?_)
          · skip
            show ab_X (d + 4) mX4_pushUp 77 [(6, .int (iI ((c : Int) + (ln c : Int)))), (5, .int (iI (lim - (c : Int)))), (0, .ref 197), (1, .int (iI (p : Int))), (2, .int (iI (l : Int))), (3, .int (iI lim)), (4, .int (iI (c : Int)))] [.int (iI 1)] h _
            refine z_if_ne (tgt := 82) dX4_pushUp_77 (by decide) (by decide) (fun _ => ?_) (fun c77 => absurd c77 (by decide))
            refine ab_iload (k := 0) dX4_pushUp_82 rfl ?_
            refine ab_iload (k := 1) dX4_pushUp_84 rfl ?_
            refine z_iadd dX4_pushUp_86 ?_
            refine z_is (y := lim + (ln c : Int)) (by omega) ?_
            refine ab_istore_n (ls' := [(3, .int (iI (lim + (ln c : Int)))), (6, .int (iI ((c : Int) + (ln c : Int)))), (5, .int (iI (lim - (c : Int)))), (0, .ref 197), (1, .int (iI (p : Int))), (2, .int (iI (l : Int))), (4, .int (iI (c : Int)))]) dX4_pushUp_87 rfl (by decide) rfl ?_
            refine ab_aload_n (k := 3) dX4_pushUp_88 rfl rfl ?_
            refine ab_dup dX4_pushUp_89 rfl ?_
            refine z_getI dX4_pushUp_90 fX4_34 rfl (Or.inl rfl) ?_
            have b1 := zv_R h 197 2
            refine ab_iload (k := 2) dX4_pushUp_93 rfl ?_
            refine z_iadd dX4_pushUp_95 ?_
            refine z_putI dX4_pushUp_96 fX4_34 rfl rfl ?_
            refine ab_aload_n (k := 3) dX4_pushUp_99 rfl rfl ?_
            refine ab_dup dX4_pushUp_100 rfl ?_
            refine z_getI dX4_pushUp_101 fX4_37 rfl (Or.inl rfl) ?_
            refine z_is (y := zv h 197 3) (zv_zp_ne (by decide)) ?_
            have b2 := zv_R h 197 3
            refine z_iconst dX4_pushUp_104 ?_
            refine z_iadd dX4_pushUp_105 ?_
            refine z_putI dX4_pushUp_106 fX4_37 rfl rfl ?_
            refine z_iinc (k := 6) (v := (c : Int) + 1) (ls' := [(4, .int (iI ((c : Int) + 1))), (3, .int (iI (lim + (ln c : Int)))), (6, .int (iI ((c : Int) + (ln c : Int)))), (5, .int (iI (lim - (c : Int)))), (0, .ref 197), (1, .int (iI (p : Int))), (2, .int (iI (l : Int)))]) dX4_pushUp_109 rfl rfl (by decide) rfl ?_
            refine ab_goto (tgt := 7) dX4_pushUp_112 (by decide) ?_
            refine ab_sub (ls' := [(0, .ref 197), (1, .int (iI (p : Int))), (2, .int (iI (l : Int))), (3, .int (iI (lim + (ln c : Int)))), (4, .int (iI ((c : Int) + 1)))]) (ks := [4, 5, 6, 1, 0]) rfl ?_
            first
            | (refine ih _ (by omega) (c + 1) lim h rfl (by omega) hF (by omega) (by omega) (by omega) ?_
               rw [← hR, pU2_n (by omega) (fun q => hb q.1)])
            | (refine ih _ (by omega) (c + 1) lim h rfl (by omega) hF (by omega) (by omega) (by omega) ?_
               rw [← hR, pU2_n (by omega) (fun q => q.2 ga)])
            | (have gl1 := glb_iff.mp gg (lim + (ln c : Int) - 1) (by omega) (by omega)
               refine ih _ (by omega) (c + 1) _ _ rfl (by omega) (F7_put hF) (by omega) ?_ ?_ ?_
               · rw [zv_zp_ne (by decide), zv_zp_s (by omega)]; omega
               · rw [zv_zp_s (by omega)]; omega
               · rw [← hR, pU2_t (to := lim) (by omega) ⟨hb, ga⟩ (by omega) gg, if_neg (by omega), zv_zp_ne (by decide), zv_zp_s (by omega), zv_zp_s (by omega)])
          · skip
            show ab_X (d + 4) mX4_pushUp 77 [(6, .int (iI ((c : Int) + (ln c : Int)))), (5, .int (iI (lim - (c : Int)))), (0, .ref 197), (1, .int (iI (p : Int))), (2, .int (iI (l : Int))), (3, .int (iI lim)), (4, .int (iI (c : Int)))] [.int (iI 0)] h _
            refine z_if_ne (tgt := 82) dX4_pushUp_77 (by decide) (by decide) (fun c77 => absurd c77 (by decide)) (fun _ => ?_)
            refine z_iconst dX4_pushUp_80 ?_
            refine z_zret dX4_pushUp_81 rfl (Or.inl rfl) ?_
            first
            | (have e : c = n := by omega
               subst e
               rw [Nat.sub_self] at hR
               exact k1 h hF hR.symm (by omega) (by omega))
            | (refine k1 h hF ?_ (by omega) (by omega)
               rw [← hR, pU2_t (to := (c : Int)) (by omega) ⟨hb, ga⟩ (by omega) glb_self, if_pos rfl, Int.sub_self, Int.add_zero, Int.add_zero]
               exact pU2_q hn2 cx _ (by omega) _ (fun z hz hz2 hbz => by have := (cx z (by omega) hbz).2.2.2.2 c hc hb (by omega); omega))
            | (refine k0 h hF ?_
               rw [← hR, pU2_f (by omega) ⟨hb, ga⟩ (by rw [show max (c : Int) lim = lim by omega]; exact gg)])
        · skip
          refine z_iconst dX4_pushUp_53 ?_
          refine z_zret dX4_pushUp_54 rfl (Or.inr rfl) ?_
          first
          | (have e : c = n := by omega
             subst e
             rw [Nat.sub_self] at hR
             exact k1 h hF hR.symm (by omega) (by omega))
          | (refine k1 h hF ?_ (by omega) (by omega)
             rw [← hR, pU2_t (to := (c : Int)) (by omega) ⟨hb, ga⟩ (by omega) glb_self, if_pos rfl, Int.sub_self, Int.add_zero, Int.add_zero]
             exact pU2_q hn2 cx _ (by omega) _ (fun z hz hz2 hbz => by have := (cx z (by omega) hbz).2.2.2.2 c hc hb (by omega); omega))
          | (refine k0 h hF ?_
             rw [← hR, pU2_f (by omega) ⟨hb, ga⟩ (by rw [show max (c : Int) lim = lim by omega]; exact gg)])
    · skip
      simp only [Int.toNat_natCast] at g25
      have hb : ¬ bg c = true := fun q => g25 ⟨by omega, by omega, (hx.2.2.2.2.1 c hc).mp q⟩
      show ab_X (d + 4) mX4_pushUp 28 [(0, .ref 197), (1, .int (iI (p : Int))), (2, .int (iI (l : Int))), (3, .int (iI lim)), (4, .int (iI (c : Int)))] [.int (iI 0)] h _
      refine z_if_eq (tgt := 109) dX4_pushUp_28 (by decide) (by decide) (fun _ => ?_) (fun c28 => absurd c28 (by decide))
      refine z_iinc (k := 4) (v := (c : Int) + 1) (ls' := [(4, .int (iI ((c : Int) + 1))), (0, .ref 197), (1, .int (iI (p : Int))), (2, .int (iI (l : Int))), (3, .int (iI lim))]) dX4_pushUp_109 rfl rfl (by decide) rfl ?_
      refine ab_goto (tgt := 7) dX4_pushUp_112 (by decide) ?_
      refine ab_sub (ls' := [(0, .ref 197), (1, .int (iI (p : Int))), (2, .int (iI (l : Int))), (3, .int (iI lim)), (4, .int (iI ((c : Int) + 1)))]) (ks := [1, 2, 3, 4, 0]) rfl ?_
      first
      | (refine ih _ (by omega) (c + 1) lim h rfl (by omega) hF (by omega) (by omega) (by omega) ?_
         rw [← hR, pU2_n (by omega) (fun q => hb q.1)])
      | (refine ih _ (by omega) (c + 1) lim h rfl (by omega) hF (by omega) (by omega) (by omega) ?_
         rw [← hR, pU2_n (by omega) (fun q => q.2 ga)])
      | (have gl1 := glb_iff.mp gg (lim + (ln c : Int) - 1) (by omega) (by omega)
         refine ih _ (by omega) (c + 1) _ _ rfl (by omega) (F7_put hF) (by omega) ?_ ?_ ?_
         · rw [zv_zp_ne (by decide), zv_zp_s (by omega)]; omega
         · rw [zv_zp_s (by omega)]; omega
         · rw [← hR, pU2_t (to := lim) (by omega) ⟨hb, ga⟩ (by omega) gg, if_neg (by omega), zv_zp_ne (by decide), zv_zp_s (by omega), zv_zp_s (by omega)])
theorem c_pushUp {d : Nat} {h : ab_H} {Q : ab_Q} {g bg : Nat → Bool} {ln : Nat → Nat} {n : Nat} {p l : Nat} {R : Option (Int × Int)} (hx : hcx h g bg ln n) (hp : p ≤ 20 ∧ l ≤ 9) (cx : CX g bg ln n) (hz : 0 ≤ zv h 197 2 ∧ zv h 197 2 ≤ 2000) (hz3 : 0 ≤ zv h 197 3 ∧ zv h 197 3 ≤ 60) (hR : pU2 bg (ahd ln p l) ln (glb g n) n n ((p : Int) + l) (zv h 197 2) (zv h 197 3) = R) (k1 : ∀ h', F7 h h' → R = some (zv h' 197 2, zv h' 197 3) → (0 ≤ zv h' 197 2 ∧ zv h' 197 2 ≤ 4000) → (0 ≤ zv h' 197 3 ∧ zv h' 197 3 ≤ 100) → Q (some (.int (iI 1))) h') (k0 : ∀ h', F7 h h' → R = none → Q (some (.int (iI 0))) h') : ab_X (d + 4) mX4_pushUp 0 (lv_args 0 [.ref 197, .int (iI (p : Int)), .int (iI (l : Int))]) [] h Q := by
  show ab_X (d + 4) mX4_pushUp 0 [(0, .ref 197), (1, .int (iI (p : Int))), (2, .int (iI (l : Int)))] [] h Q
  have hn2 := hx.2.1
  refine ab_iload_n (k := 1) dX4_pushUp_0 rfl rfl ?_
  refine ab_iload_n (k := 2) dX4_pushUp_1 rfl rfl ?_
  refine z_iadd dX4_pushUp_2 ?_
  refine ab_istore_n (ls' := [(3, .int (iI ((p : Int) + (l : Int)))), (0, .ref 197), (1, .int (iI (p : Int))), (2, .int (iI (l : Int)))]) dX4_pushUp_3 rfl (by decide) rfl ?_
  refine z_iconst dX4_pushUp_4 ?_
  refine ab_istore (ls' := [(4, .int (iI 0)), (3, .int (iI ((p : Int) + (l : Int)))), (0, .ref 197), (1, .int (iI (p : Int))), (2, .int (iI (l : Int)))]) dX4_pushUp_5 (by decide) rfl ?_
  refine ab_sub (ls' := [(0, .ref 197), (1, .int (iI (p : Int))), (2, .int (iI (l : Int))), (3, .int (iI ((p : Int) + (l : Int)))), (4, .int (iI 0))]) (ks := [2, 3, 4, 1, 0]) rfl ?_
  exact lp_pushUp hx hp cx k1 k0 _ 0 _ h rfl (by omega) ⟨sm.refl, fun _ _ _ => rfl⟩ (by omega) (by omega) (by omega) hR
/-- the best stands in the mover's cells -/
def hB3 (h : ab_H) (r : Int × Int × Int) : Prop := zv h 197 4 = r.1 ∧ zv h 197 5 = r.2.1 ∧ zv h 197 6 = r.2.2
theorem F7_B {h0 h : ab_H} {r : Int × Int × Int} (f : F7 h0 h) (b : hB3 h0 r) : hB3 h r := ⟨(f.2 4 (by decide) (by decide)).trans b.1, (f.2 5 (by decide) (by decide)).trans b.2.1, (f.2 6 (by decide) (by decide)).trans b.2.2⟩
theorem hB3_put {h : ab_H} {a b c : Int} (ha : inR a) (hb : inR b) (hc : inR c) : hB3 (zp (zp (zp h 197 4 a) 197 5 b) 197 6 c) (a, b, c) := ⟨by rw [zv_zp_ne (by decide), zv_zp_ne (by decide), zv_zp_s ha], by rw [zv_zp_ne (by decide), zv_zp_s hb], by rw [zv_zp_s hc]⟩
theorem lp_search {d : Nat} {Q : ab_Q} {h0 : ab_H} {g bg : Nat → Bool} {ln : Nat → Nat} {n : Nat} {l : Nat} (hx0 : hcx h0 g bg ln n) (hl : 1 ≤ l ∧ l ≤ 9) (cx : CX g bg ln n) (K : ∀ h', sm [197] h0 h' → hB3 h' (hBst g bg ln n l n) → Q none h') : ∀ (nn : Nat) (p : Nat) (h : ab_H), n + 1 - l - p = nn → (p ≤ n + 1 - l) → (sm [197] h0 h) → (hB3 h (hBst g bg ln n l p)) → ab_X (d + 5) mX4_search 17 [(0, .ref 197), (1, .int (iI (l : Int))), (2, .int (iI (p : Int)))] [] h Q := by
  intro nn
  induction nn using Nat.strongRecOn with
  | ind nn ih =>
  intro p h hnn h2p hS hI
  have hx := hcx_sm hS hx0
  have hn2 := hx.2.1
  have hbb := hBst_b (g := g) (bg := bg) (ln := ln) (n := n) (l := l) p
  refine ab_iload_n (k := 2) dX4_search_17 rfl rfl ?_
  refine ab_aload_n (k := 0) dX4_search_18 rfl rfl ?_
  refine z_getP (b := 15) dX4_search_19 fX4_9 rfl rfl rfl ?_
  refine z_getI dX4_search_22 fX4_29 rfl (Or.inl rfl) ?_
  refine z_is (y := (n : Int)) hx.1 ?_
  refine ab_iload_n (k := 1) dX4_search_25 rfl rfl ?_
  refine z_isub dX4_search_26 ?_
  refine z_icmp_gt (tgt := 115) dX4_search_27 (by decide) (by omega) (by omega) (fun c27 => ?_) (fun c27 => ?_)
  · skip
    refine z_vret dX4_search_115 rfl ?_
    have e : p = n + 1 - l := by omega
    rw [e, ← hBst_end hl.1 n (by omega)] at hI
    exact K h hS hI
  · skip
    refine ab_aload_n (k := 0) dX4_search_30 rfl rfl ?_
    refine z_iconst dX4_search_31 ?_
    refine z_putI dX4_search_32 fX4_34 rfl rfl ?_
    refine ab_aload_n (k := 0) dX4_search_35 rfl rfl ?_
    refine z_iconst dX4_search_36 ?_
    refine z_putI dX4_search_37 fX4_37 rfl rfl ?_
    refine ab_aload_n (k := 0) dX4_search_40 rfl rfl ?_
    refine ab_iload_n (k := 2) dX4_search_41 rfl rfl ?_
    refine ab_iload_n (k := 2) dX4_search_42 rfl rfl ?_
    refine ab_iload_n (k := 1) dX4_search_43 rfl rfl ?_
    refine z_iadd dX4_search_44 ?_
    refine ab_callV (As := [.int (iI (p : Int)), .int (iI ((p : Int) + (l : Int)))]) (rest := []) dX4_search_45 lX4_40 rfl (Nat.le_of_ble_eq_true rfl) (Nat.le_of_ble_eq_true rfl) rfl ?_
    obtain ⟨h1, eh1⟩ : ∃ z : ab_H, z = zp (zp h 197 2 0) 197 3 0 := ⟨_, rfl⟩
    rw [← eh1]
    have hz1 : zv h1 197 2 = 0 ∧ zv h1 197 3 = 0 := by rw [eh1]; exact ⟨by rw [zv_zp_ne (by decide), zv_zp_s (by decide)], zv_zp_s (by decide)⟩
    have hF1 : F7 h h1 := by rw [eh1]; exact F7_put ⟨sm.refl, fun _ _ _ => rfl⟩
    have hx1 := hcx_sm hF1.1 hx
    refine c_gateless hx1 (by omega) (by omega) (fun gg => ?_) (fun gg => ?_)
    · skip
      show ab_X (d + 5) mX4_search 48 [(0, .ref 197), (1, .int (iI (l : Int))), (2, .int (iI (p : Int)))] [.int (iI 1)] h1 _
      refine z_if_eq (tgt := 109) dX4_search_48 (by decide) (by decide) (fun c48 => absurd c48 (by decide)) (fun _ => ?_)
      refine ab_aload_n (k := 0) dX4_search_51 rfl rfl ?_
      refine ab_iload_n (k := 2) dX4_search_52 rfl rfl ?_
      refine ab_iload_n (k := 1) dX4_search_53 rfl rfl ?_
      refine ab_callV (As := [.int (iI (p : Int)), .int (iI (l : Int))]) (rest := []) dX4_search_54 lX4_44 rfl (Nat.le_of_ble_eq_true rfl) (Nat.le_of_ble_eq_true rfl) rfl ?_
      refine c_pushDown (R := pD bg (ahd ln p l) ln (glb g n) n p 0 0) hx1 (by omega) cx hz1 rfl (fun h2 hF2 hR2 hb2 hb3 => ?_) (fun h2 hF2 hR2 => ?_)
      · skip
        have hx2 := hcx_sm hF2.1 hx1
        show ab_X (d + 5) mX4_search 57 [(0, .ref 197), (1, .int (iI (l : Int))), (2, .int (iI (p : Int)))] [.int (iI 1)] h2 _
        refine z_if_eq (tgt := 109) dX4_search_57 (by decide) (by decide) (fun c57 => absurd c57 (by decide)) (fun _ => ?_)
        refine ab_aload_n (k := 0) dX4_search_60 rfl rfl ?_
        refine ab_iload_n (k := 2) dX4_search_61 rfl rfl ?_
        refine ab_iload_n (k := 1) dX4_search_62 rfl rfl ?_
        refine ab_callV (As := [.int (iI (p : Int)), .int (iI (l : Int))]) (rest := []) dX4_search_63 lX4_47 rfl (Nat.le_of_ble_eq_true rfl) (Nat.le_of_ble_eq_true rfl) rfl ?_
        refine c_pushUp (R := hGet g bg ln n l p) hx2 (by omega) cx hb2 hb3 (hGet_u gg hR2).symm (fun h3 hF3 hR3 hc2 hc3 => ?_) (fun h3 hF3 hR3 => ?_)
        · skip
          have hB := F7_B hF3 (F7_B hF2 (F7_B hF1 hI))
          show ab_X (d + 5) mX4_search 66 [(0, .ref 197), (1, .int (iI (l : Int))), (2, .int (iI (p : Int)))] [.int (iI 1)] h3 _
          refine z_if_eq (tgt := 109) dX4_search_66 (by decide) (by decide) (fun c66 => absurd c66 (by decide)) (fun _ => ?_)
          refine ab_aload_n (k := 0) dX4_search_69 rfl rfl ?_
          refine z_getI dX4_search_70 fX4_26 rfl (Or.inl rfl) ?_
          have b1 := zv_R h3 197 6
          refine z_iconst dX4_search_73 ?_
          refine z_icmp_eq (tgt := 88) dX4_search_74 (by decide) (by omega) (by decide) (fun c74 => ?_) (fun c74 => ?_)
          · skip
            refine ab_aload_n (k := 0) dX4_search_88 rfl rfl ?_
            refine ab_aload_n (k := 0) dX4_search_89 rfl rfl ?_
            refine z_getI dX4_search_90 fX4_34 rfl (Or.inl rfl) ?_
            have b2 := zv_R h3 197 2
            refine z_putI dX4_search_93 fX4_19 rfl rfl ?_
            refine ab_aload_n (k := 0) dX4_search_96 rfl rfl ?_
            refine ab_aload_n (k := 0) dX4_search_97 rfl rfl ?_
            refine z_getI dX4_search_98 fX4_37 rfl (Or.inl rfl) ?_
            refine z_is (y := zv h3 197 3) (zv_zp_ne (by decide)) ?_
            have b3 := zv_R h3 197 3
            refine z_putI dX4_search_101 fX4_23 rfl rfl ?_
            refine ab_aload_n (k := 0) dX4_search_104 rfl rfl ?_
            refine ab_iload_n (k := 2) dX4_search_105 rfl rfl ?_
            refine z_putI dX4_search_106 fX4_26 rfl rfl ?_
            refine z_iinc (k := 2) (v := (p : Int) + 1) (ls' := [(2, .int (iI ((p : Int) + 1))), (0, .ref 197), (1, .int (iI (l : Int)))]) dX4_search_109 rfl rfl (by decide) rfl ?_
            refine ab_goto (tgt := 17) dX4_search_112 (by decide) ?_
            refine ab_sub (ls' := [(0, .ref 197), (1, .int (iI (l : Int))), (2, .int (iI ((p : Int) + 1)))]) (ks := [1, 2, 0]) rfl ?_
            first
            | (rw [← hBst_n hG] at hI
               first
               | exact ih _ (by omega) (p + 1) _ rfl (by omega) (hS.trans (hF1.1.trans (hF2.1.trans hF3.1))) (F7_B hF3 (F7_B hF2 (F7_B hF1 hI)))
               | exact ih _ (by omega) (p + 1) _ rfl (by omega) (hS.trans (hF1.1.trans hF2.1)) (F7_B hF2 (F7_B hF1 hI))
               | exact ih _ (by omega) (p + 1) _ rfl (by omega) (hS.trans hF1.1) (F7_B hF1 hI))
            | (have hB1 := hB.1
               have hB2 := hB.2.2
               first
               | exact ih _ (by omega) (p + 1) _ rfl (by omega) ((((hS.trans (hF1.1.trans (hF2.1.trans hF3.1))).trans (sm_zp (by decide))).trans (sm_zp (by decide))).trans (sm_zp (by decide))) (by rw [hBst_t hR3 (by omega)]; exact hB3_put (zv_R _ _ _) (zv_R _ _ _) (by omega))
               | exact ih _ (by omega) (p + 1) _ rfl (by omega) (hS.trans (hF1.1.trans (hF2.1.trans hF3.1))) (by rw [hBst_f hR3 (by omega)]; exact hB))
          · skip
            refine ab_aload_n (k := 0) dX4_search_77 rfl rfl ?_
            refine z_getI dX4_search_78 fX4_34 rfl (Or.inl rfl) ?_
            have b4 := zv_R h3 197 2
            refine ab_aload_n (k := 0) dX4_search_81 rfl rfl ?_
            refine z_getI dX4_search_82 fX4_19 rfl (Or.inl rfl) ?_
            have b5 := zv_R h3 197 4
            refine z_icmp_ge (tgt := 109) dX4_search_85 (by decide) (by omega) (by omega) (fun c85 => ?_) (fun c85 => ?_)
            · skip
              refine z_iinc (k := 2) (v := (p : Int) + 1) (ls' := [(2, .int (iI ((p : Int) + 1))), (0, .ref 197), (1, .int (iI (l : Int)))]) dX4_search_109 rfl rfl (by decide) rfl ?_
              refine ab_goto (tgt := 17) dX4_search_112 (by decide) ?_
              refine ab_sub (ls' := [(0, .ref 197), (1, .int (iI (l : Int))), (2, .int (iI ((p : Int) + 1)))]) (ks := [1, 2, 0]) rfl ?_
              first
              | (rw [← hBst_n hG] at hI
                 first
                 | exact ih _ (by omega) (p + 1) _ rfl (by omega) (hS.trans (hF1.1.trans (hF2.1.trans hF3.1))) (F7_B hF3 (F7_B hF2 (F7_B hF1 hI)))
                 | exact ih _ (by omega) (p + 1) _ rfl (by omega) (hS.trans (hF1.1.trans hF2.1)) (F7_B hF2 (F7_B hF1 hI))
                 | exact ih _ (by omega) (p + 1) _ rfl (by omega) (hS.trans hF1.1) (F7_B hF1 hI))
              | (have hB1 := hB.1
                 have hB2 := hB.2.2
                 first
                 | exact ih _ (by omega) (p + 1) _ rfl (by omega) ((((hS.trans (hF1.1.trans (hF2.1.trans hF3.1))).trans (sm_zp (by decide))).trans (sm_zp (by decide))).trans (sm_zp (by decide))) (by rw [hBst_t hR3 (by omega)]; exact hB3_put (zv_R _ _ _) (zv_R _ _ _) (by omega))
                 | exact ih _ (by omega) (p + 1) _ rfl (by omega) (hS.trans (hF1.1.trans (hF2.1.trans hF3.1))) (by rw [hBst_f hR3 (by omega)]; exact hB))
            · skip
              refine ab_aload_n (k := 0) dX4_search_88 rfl rfl ?_
              refine ab_aload_n (k := 0) dX4_search_89 rfl rfl ?_
              refine z_getI dX4_search_90 fX4_34 rfl (Or.inl rfl) ?_
              have b6 := zv_R h3 197 2
              refine z_putI dX4_search_93 fX4_19 rfl rfl ?_
              refine ab_aload_n (k := 0) dX4_search_96 rfl rfl ?_
              refine ab_aload_n (k := 0) dX4_search_97 rfl rfl ?_
              refine z_getI dX4_search_98 fX4_37 rfl (Or.inl rfl) ?_
              refine z_is (y := zv h3 197 3) (zv_zp_ne (by decide)) ?_
              have b7 := zv_R h3 197 3
              refine z_putI dX4_search_101 fX4_23 rfl rfl ?_
              refine ab_aload_n (k := 0) dX4_search_104 rfl rfl ?_
              refine ab_iload_n (k := 2) dX4_search_105 rfl rfl ?_
              refine z_putI dX4_search_106 fX4_26 rfl rfl ?_
              refine z_iinc (k := 2) (v := (p : Int) + 1) (ls' := [(2, .int (iI ((p : Int) + 1))), (0, .ref 197), (1, .int (iI (l : Int)))]) dX4_search_109 rfl rfl (by decide) rfl ?_
              refine ab_goto (tgt := 17) dX4_search_112 (by decide) ?_
              refine ab_sub (ls' := [(0, .ref 197), (1, .int (iI (l : Int))), (2, .int (iI ((p : Int) + 1)))]) (ks := [1, 2, 0]) rfl ?_
              first
              | (rw [← hBst_n hG] at hI
                 first
                 | exact ih _ (by omega) (p + 1) _ rfl (by omega) (hS.trans (hF1.1.trans (hF2.1.trans hF3.1))) (F7_B hF3 (F7_B hF2 (F7_B hF1 hI)))
                 | exact ih _ (by omega) (p + 1) _ rfl (by omega) (hS.trans (hF1.1.trans hF2.1)) (F7_B hF2 (F7_B hF1 hI))
                 | exact ih _ (by omega) (p + 1) _ rfl (by omega) (hS.trans hF1.1) (F7_B hF1 hI))
              | (have hB1 := hB.1
                 have hB2 := hB.2.2
                 first
                 | exact ih _ (by omega) (p + 1) _ rfl (by omega) ((((hS.trans (hF1.1.trans (hF2.1.trans hF3.1))).trans (sm_zp (by decide))).trans (sm_zp (by decide))).trans (sm_zp (by decide))) (by rw [hBst_t hR3 (by omega)]; exact hB3_put (zv_R _ _ _) (zv_R _ _ _) (by omega))
                 | exact ih _ (by omega) (p + 1) _ rfl (by omega) (hS.trans (hF1.1.trans (hF2.1.trans hF3.1))) (by rw [hBst_f hR3 (by omega)]; exact hB))
        · skip
          have hG := hR3
          show ab_X (d + 5) mX4_search 66 [(0, .ref 197), (1, .int (iI (l : Int))), (2, .int (iI (p : Int)))] [.int (iI 0)] h3 _
          refine z_if_eq (tgt := 109) dX4_search_66 (by decide) (by decide) (fun _ => ?_) (fun c66 => absurd c66 (by decide))
          refine z_iinc (k := 2) (v := (p : Int) + 1) (ls' := [(2, .int (iI ((p : Int) + 1))), (0, .ref 197), (1, .int (iI (l : Int)))]) dX4_search_109 rfl rfl (by decide) rfl ?_
          refine ab_goto (tgt := 17) dX4_search_112 (by decide) ?_
          refine ab_sub (ls' := [(0, .ref 197), (1, .int (iI (l : Int))), (2, .int (iI ((p : Int) + 1)))]) (ks := [1, 2, 0]) rfl ?_
          first
          | (rw [← hBst_n hG] at hI
             first
             | exact ih _ (by omega) (p + 1) _ rfl (by omega) (hS.trans (hF1.1.trans (hF2.1.trans hF3.1))) (F7_B hF3 (F7_B hF2 (F7_B hF1 hI)))
             | exact ih _ (by omega) (p + 1) _ rfl (by omega) (hS.trans (hF1.1.trans hF2.1)) (F7_B hF2 (F7_B hF1 hI))
             | exact ih _ (by omega) (p + 1) _ rfl (by omega) (hS.trans hF1.1) (F7_B hF1 hI))
          | (have hB1 := hB.1
             have hB2 := hB.2.2
             first
             | exact ih _ (by omega) (p + 1) _ rfl (by omega) ((((hS.trans (hF1.1.trans (hF2.1.trans hF3.1))).trans (sm_zp (by decide))).trans (sm_zp (by decide))).trans (sm_zp (by decide))) (by rw [hBst_t hR3 (by omega)]; exact hB3_put (zv_R _ _ _) (zv_R _ _ _) (by omega))
             | exact ih _ (by omega) (p + 1) _ rfl (by omega) (hS.trans (hF1.1.trans (hF2.1.trans hF3.1))) (by rw [hBst_f hR3 (by omega)]; exact hB))
      · skip
        have hG := hGet_d gg hR2
        show ab_X (d + 5) mX4_search 57 [(0, .ref 197), (1, .int (iI (l : Int))), (2, .int (iI (p : Int)))] [.int (iI 0)] h2 _
        refine z_if_eq (tgt := 109) dX4_search_57 (by decide) (by decide) (fun _ => ?_) (fun c57 => absurd c57 (by decide))
        refine z_iinc (k := 2) (v := (p : Int) + 1) (ls' := [(2, .int (iI ((p : Int) + 1))), (0, .ref 197), (1, .int (iI (l : Int)))]) dX4_search_109 rfl rfl (by decide) rfl ?_
        refine ab_goto (tgt := 17) dX4_search_112 (by decide) ?_
        refine ab_sub (ls' := [(0, .ref 197), (1, .int (iI (l : Int))), (2, .int (iI ((p : Int) + 1)))]) (ks := [1, 2, 0]) rfl ?_
        first
        | (rw [← hBst_n hG] at hI
           first
           | exact ih _ (by omega) (p + 1) _ rfl (by omega) (hS.trans (hF1.1.trans (hF2.1.trans hF3.1))) (F7_B hF3 (F7_B hF2 (F7_B hF1 hI)))
           | exact ih _ (by omega) (p + 1) _ rfl (by omega) (hS.trans (hF1.1.trans hF2.1)) (F7_B hF2 (F7_B hF1 hI))
           | exact ih _ (by omega) (p + 1) _ rfl (by omega) (hS.trans hF1.1) (F7_B hF1 hI))
        | (have hB1 := hB.1
           have hB2 := hB.2.2
           first
           | exact ih _ (by omega) (p + 1) _ rfl (by omega) ((((hS.trans (hF1.1.trans (hF2.1.trans hF3.1))).trans (sm_zp (by decide))).trans (sm_zp (by decide))).trans (sm_zp (by decide))) (by rw [hBst_t hR3 (by omega)]; exact hB3_put (zv_R _ _ _) (zv_R _ _ _) (by omega))
           | exact ih _ (by omega) (p + 1) _ rfl (by omega) (hS.trans (hF1.1.trans (hF2.1.trans hF3.1))) (by rw [hBst_f hR3 (by omega)]; exact hB))
    · skip
      have hG := hGet_n (g := g) (bg := bg) (ln := ln) (n := n) (l := l) (p := p) gg
      show ab_X (d + 5) mX4_search 48 [(0, .ref 197), (1, .int (iI (l : Int))), (2, .int (iI (p : Int)))] [.int (iI 0)] h1 _
      refine z_if_eq (tgt := 109) dX4_search_48 (by decide) (by decide) (fun _ => ?_) (fun c48 => absurd c48 (by decide))
      refine z_iinc (k := 2) (v := (p : Int) + 1) (ls' := [(2, .int (iI ((p : Int) + 1))), (0, .ref 197), (1, .int (iI (l : Int)))]) dX4_search_109 rfl rfl (by decide) rfl ?_
      refine ab_goto (tgt := 17) dX4_search_112 (by decide) ?_
      refine ab_sub (ls' := [(0, .ref 197), (1, .int (iI (l : Int))), (2, .int (iI ((p : Int) + 1)))]) (ks := [1, 2, 0]) rfl ?_
      first
      | (rw [← hBst_n hG] at hI
         first
         | exact ih _ (by omega) (p + 1) _ rfl (by omega) (hS.trans (hF1.1.trans (hF2.1.trans hF3.1))) (F7_B hF3 (F7_B hF2 (F7_B hF1 hI)))
         | exact ih _ (by omega) (p + 1) _ rfl (by omega) (hS.trans (hF1.1.trans hF2.1)) (F7_B hF2 (F7_B hF1 hI))
         | exact ih _ (by omega) (p + 1) _ rfl (by omega) (hS.trans hF1.1) (F7_B hF1 hI))
      | (have hB1 := hB.1
         have hB2 := hB.2.2
         first
         | exact ih _ (by omega) (p + 1) _ rfl (by omega) ((((hS.trans (hF1.1.trans (hF2.1.trans hF3.1))).trans (sm_zp (by decide))).trans (sm_zp (by decide))).trans (sm_zp (by decide))) (by rw [hBst_t hR3 (by omega)]; exact hB3_put (zv_R _ _ _) (zv_R _ _ _) (by omega))
         | exact ih _ (by omega) (p + 1) _ rfl (by omega) (hS.trans (hF1.1.trans (hF2.1.trans hF3.1))) (by rw [hBst_f hR3 (by omega)]; exact hB))
theorem c_search {d : Nat} {h : ab_H} {Q : ab_Q} {g bg : Nat → Bool} {ln : Nat → Nat} {n : Nat} {l : Nat} (hx : hcx h g bg ln n) (hl : 1 ≤ l ∧ l ≤ 9) (cx : CX g bg ln n) (K : ∀ h', sm [197] h h' → hB3 h' (hBst g bg ln n l n) → Q none h') : ab_X (d + 5) mX4_search 0 (lv_args 0 [.ref 197, .int (iI (l : Int))]) [] h Q := by
  show ab_X (d + 5) mX4_search 0 [(0, .ref 197), (1, .int (iI (l : Int)))] [] h Q
  refine ab_aload_n (k := 0) dX4_search_0 rfl rfl ?_
  refine z_iconst dX4_search_1 ?_
  refine z_putI dX4_search_2 fX4_19 rfl rfl ?_
  refine ab_aload_n (k := 0) dX4_search_5 rfl rfl ?_
  refine z_iconst dX4_search_6 ?_
  refine z_putI dX4_search_7 fX4_23 rfl rfl ?_
  refine ab_aload_n (k := 0) dX4_search_10 rfl rfl ?_
  refine z_iconst dX4_search_11 ?_
  refine z_putI dX4_search_12 fX4_26 rfl rfl ?_
  refine z_iconst dX4_search_15 ?_
  refine ab_istore_n (ls' := [(2, .int (iI 0)), (0, .ref 197), (1, .int (iI (l : Int)))]) dX4_search_16 rfl (by decide) rfl ?_
  refine ab_sub (ls' := [(0, .ref 197), (1, .int (iI (l : Int))), (2, .int (iI 0))]) (ks := [1, 2, 0]) rfl ?_
  have hs1 : sm [197] h (zp (zp (zp h 197 4 (-1)) 197 5 (-1)) 197 6 (-1)) := ((sm_zp (by decide)).trans (sm_zp (by decide))).trans (sm_zp (by decide))
  exact lp_search (hcx_sm hs1 hx) hl cx (fun h' a b => K h' (hs1.trans a) b) _ 0 _ rfl (by omega) sm.refl (hB3_put (by decide) (by decide) (by decide))
theorem c_hearse {d : Nat} {h : ab_H} {Q : ab_Q} {s x : Int} {L : Nat} {g bg : Nat → Bool} {ln : Nat → Nat} {n : Nat} (hs : inR s) (hx9 : inR x) (hx : hcx h g bg ln n) (cx : CX g bg ln n) (hL : 0 ≤ s ∧ s < zv h 15 3 → zv h 16 s.toNat = L ∧ 1 ≤ L ∧ L ≤ 9) (kn : ¬ ((0 ≤ s ∧ s < zv h 15 3) ∧ 0 ≤ x ∧ x ≤ 2) → Q (some (.int (iI (-1)))) h) (k1 : (0 ≤ s ∧ s < zv h 15 3) ∧ 0 ≤ x ∧ x ≤ 2 → ∀ h', sm [197] h h' → Q (some (.int (iI (if x = 0 then (hBst g bg ln n L n).1 else if x = 1 then (hBst g bg ln n L n).2.1 else (hBst g bg ln n L n).2.2)))) h') : ab_X (d + 6) mX11_hearse 0 (lv_args 0 [.ref 0, .int (iI s), .int (iI x)]) [] h Q := by
  show ab_X (d + 6) mX11_hearse 0 [(0, .ref 0), (1, .int (iI s)), (2, .int (iI x))] [] h Q
  have hN := hx.2.2.1
  refine ab_aload_n (k := 0) dX11_hearse_0 rfl rfl ?_
  refine z_getP (b := 15) dX11_hearse_1 fX11_35 rfl rfl rfl ?_
  refine ab_iload_n (k := 1) dX11_hearse_4 rfl rfl ?_
  refine ab_callV (As := [.int (iI s)]) (rest := []) dX11_hearse_5 lX11_171 rfl (Nat.le_of_ble_eq_true rfl) (Nat.le_of_ble_eq_true rfl) rfl ?_
  refine c_hasSort (by omega) (fun g5 => ?_) (fun g5 => ?_)
  · skip
    try simp only [Int.toNat_natCast] at g5
    have gL := g5
    show ab_X (d + 6) mX11_hearse 8 [(0, .ref 0), (1, .int (iI s)), (2, .int (iI x))] [.int (iI 1)] h _
    refine z_if_eq (tgt := 20) dX11_hearse_8 (by decide) (by decide) (fun c8 => absurd c8 (by decide)) (fun _ => ?_)
    refine ab_iload_n (k := 2) dX11_hearse_11 rfl rfl ?_
    refine z_if_lt (tgt := 20) dX11_hearse_12 (by decide) (by omega) (fun c12 => ?_) (fun c12 => ?_)
    · skip
      refine z_iconst dX11_hearse_20 ?_
      refine z_iret dX11_hearse_21 rfl ?_
      first | exact kn (by omega) | (have k2 := k1 (by omega) h1 hs1; rw [if_pos (by omega)] at k2; exact k2) | (have k2 := k1 (by omega) h1 hs1; rw [if_neg (by omega), if_pos (by omega)] at k2; exact k2) | (have k2 := k1 (by omega) h1 hs1; rw [if_neg (by omega), if_neg (by omega)] at k2; exact k2)
    · skip
      refine ab_iload_n (k := 2) dX11_hearse_15 rfl rfl ?_
      refine z_iconst dX11_hearse_16 ?_
      refine z_icmp_le (tgt := 22) dX11_hearse_17 (by decide) (by omega) (by decide) (fun c17 => ?_) (fun c17 => ?_)
      · skip
        refine ab_aload_n (k := 0) dX11_hearse_22 rfl rfl ?_
        refine z_getP (b := 197) dX11_hearse_23 fX11_89 rfl rfl rfl ?_
        refine ab_aload_n (k := 0) dX11_hearse_26 rfl rfl ?_
        refine z_getP (b := 15) dX11_hearse_27 fX11_35 rfl rfl rfl ?_
        refine ab_iload_n (k := 1) dX11_hearse_30 rfl rfl ?_
        refine ab_callV (As := [.int (iI s)]) (rest := [.ref 197]) dX11_hearse_31 lX11_174 rfl (Nat.le_of_ble_eq_true rfl) (Nat.le_of_ble_eq_true rfl) rfl ?_
        refine c_lengthOf (by omega) (by omega) (fun _ => ?_) (fun q => absurd (show _ from ⟨by omega, by omega⟩) q)
        show ab_X (d + 6) mX11_hearse 34 [(0, .ref 0), (1, .int (iI s)), (2, .int (iI x))] [.int (iI (zv h 16 s.toNat)), .ref 197] h _
        refine z_is (y := (L : Int)) (hL (by omega)).1 ?_
        have hLb := (hL (by omega)).2
        refine ab_callV (As := [.int (iI (L : Int))]) (rest := []) dX11_hearse_34 lX11_289 rfl (Nat.le_of_ble_eq_true rfl) (Nat.le_of_ble_eq_true rfl) rfl ?_
        refine c_search hx (by omega) cx (fun h1 hs1 hB1 => ?_)
        show ab_X (d + 6) mX11_hearse 37 [(0, .ref 0), (1, .int (iI s)), (2, .int (iI x))] [] h1 _
        refine ab_iload_n (k := 2) dX11_hearse_37 rfl rfl ?_
        refine z_if_ne (tgt := 49) dX11_hearse_38 (by decide) (by omega) (fun c38 => ?_) (fun c38 => ?_)
        · skip
          refine ab_iload_n (k := 2) dX11_hearse_49 rfl rfl ?_
          refine z_iconst dX11_hearse_50 ?_
          refine z_icmp_ne (tgt := 64) dX11_hearse_51 (by decide) (by omega) (by decide) (fun c51 => ?_) (fun c51 => ?_)
          · skip
            refine ab_aload_n (k := 0) dX11_hearse_64 rfl rfl ?_
            refine z_getP (b := 197) dX11_hearse_65 fX11_89 rfl rfl rfl ?_
            refine z_getI dX11_hearse_68 fX11_298 rfl (Or.inl rfl) ?_
            refine z_is (y := (hBst g bg ln n L n).2.2) hB1.2.2 ?_
            refine z_iret dX11_hearse_71 rfl ?_
            first | exact kn (by omega) | (have k2 := k1 (by omega) h1 hs1; rw [if_pos (by omega)] at k2; exact k2) | (have k2 := k1 (by omega) h1 hs1; rw [if_neg (by omega), if_pos (by omega)] at k2; exact k2) | (have k2 := k1 (by omega) h1 hs1; rw [if_neg (by omega), if_neg (by omega)] at k2; exact k2)
          · skip
            refine ab_aload_n (k := 0) dX11_hearse_54 rfl rfl ?_
            refine z_getP (b := 197) dX11_hearse_55 fX11_89 rfl rfl rfl ?_
            refine z_getI dX11_hearse_58 fX11_295 rfl (Or.inl rfl) ?_
            refine z_is (y := (hBst g bg ln n L n).2.1) hB1.2.1 ?_
            refine ab_goto (tgt := 71) dX11_hearse_61 (by decide) ?_
            refine z_iret dX11_hearse_71 rfl ?_
            first | exact kn (by omega) | (have k2 := k1 (by omega) h1 hs1; rw [if_pos (by omega)] at k2; exact k2) | (have k2 := k1 (by omega) h1 hs1; rw [if_neg (by omega), if_pos (by omega)] at k2; exact k2) | (have k2 := k1 (by omega) h1 hs1; rw [if_neg (by omega), if_neg (by omega)] at k2; exact k2)
        · skip
          refine ab_aload_n (k := 0) dX11_hearse_41 rfl rfl ?_
          refine z_getP (b := 197) dX11_hearse_42 fX11_89 rfl rfl rfl ?_
          refine z_getI dX11_hearse_45 fX11_292 rfl (Or.inl rfl) ?_
          refine z_is (y := (hBst g bg ln n L n).1) hB1.1 ?_
          refine z_iret dX11_hearse_48 rfl ?_
          first | exact kn (by omega) | (have k2 := k1 (by omega) h1 hs1; rw [if_pos (by omega)] at k2; exact k2) | (have k2 := k1 (by omega) h1 hs1; rw [if_neg (by omega), if_pos (by omega)] at k2; exact k2) | (have k2 := k1 (by omega) h1 hs1; rw [if_neg (by omega), if_neg (by omega)] at k2; exact k2)
      · skip
        refine z_iconst dX11_hearse_20 ?_
        refine z_iret dX11_hearse_21 rfl ?_
        first | exact kn (by omega) | (have k2 := k1 (by omega) h1 hs1; rw [if_pos (by omega)] at k2; exact k2) | (have k2 := k1 (by omega) h1 hs1; rw [if_neg (by omega), if_pos (by omega)] at k2; exact k2) | (have k2 := k1 (by omega) h1 hs1; rw [if_neg (by omega), if_neg (by omega)] at k2; exact k2)
  · skip
    try simp only [Int.toNat_natCast] at g5
    have gL := g5
    show ab_X (d + 6) mX11_hearse 8 [(0, .ref 0), (1, .int (iI s)), (2, .int (iI x))] [.int (iI 0)] h _
    refine z_if_eq (tgt := 20) dX11_hearse_8 (by decide) (by decide) (fun _ => ?_) (fun c8 => absurd c8 (by decide))
    refine z_iconst dX11_hearse_20 ?_
    refine z_iret dX11_hearse_21 rfl ?_
    first | exact kn (by omega) | (have k2 := k1 (by omega) h1 hs1; rw [if_pos (by omega)] at k2; exact k2) | (have k2 := k1 (by omega) h1 hs1; rw [if_neg (by omega), if_pos (by omega)] at k2; exact k2) | (have k2 := k1 (by omega) h1 hs1; rw [if_neg (by omega), if_neg (by omega)] at k2; exact k2)
