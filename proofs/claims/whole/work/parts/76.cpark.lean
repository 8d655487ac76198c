/-! CHOICE, WHERE, PARK of the class: whole calls -/
def DC (h h' : ab_H) : Prop := ∀ b j, ¬ (b = 167 ∨ b = 168 ∨ b = 169 ∨ b = 199 ∨ (20 ≤ b ∧ b < 36 ∧ (b % 4 = 3 ∨ (b % 4 = 0 ∧ ¬ j = 3)))) → zv h' b j = zv h b j
theorem DC.rf {h : ab_H} : DC h h := fun _ _ _ => rfl
theorem DC_of {a b c : ab_H} (x : sm [167, 168, 169] a b) (y : DW b c) : DC a c := fun p q r => (y p q (fun z => r (by omega))).trans (x.1 p q (by simp only [List.mem_cons, List.not_mem_nil, or_false]; omega))
theorem c_choice {d : Nat} {h : ab_H} {Q : ab_Q} {s k : Int} {n L : Nat} {hd rc nc : Int} {c : List (Int × Int)} (hs : inR s) (hk : inR k) (hn : zv h 15 0 = n) (hn2 : n ≤ 20) (hN : zv h 15 3 ≤ 4) (hL : 0 ≤ s ∧ s < zv h 15 3 → zv h 16 s.toNat = L ∧ 1 ≤ L ∧ L ≤ 9) (r0 : rOK h hd rc c) (hc0 : zv h 36 2 = nc) (k0 : ¬ ((0 ≤ s ∧ s < zv h 15 3) ∧ 1 ≤ k ∧ k ≤ 4) → Q (some (.int (iI (-1)))) h) (k1 : ((0 ≤ s ∧ s < zv h 15 3) ∧ 1 ≤ k ∧ k ≤ 4) → ∀ h', DC h h' → Q (some (.int (iI ((cbf (fC (cfr h n) k hd c L nc) (pls (cfr h n) L n)).1)))) h') : ab_X (d + 6) mX11_choice 0 (lv_args 0 [.ref 0, .int (iI s), .int (iI k)]) [] h Q := by
  show ab_X (d + 6) mX11_choice 0 [(0, .ref 0), (1, .int (iI s)), (2, .int (iI k))] [] h Q
  refine ab_aload_n (k := 0) dX11_choice_0 rfl rfl ?_
  refine z_getP (b := 15) dX11_choice_1 fX11_35 rfl rfl rfl ?_
  refine ab_iload_n (k := 1) dX11_choice_4 rfl rfl ?_
  refine ab_callV (As := [.int (iI s)]) (rest := []) dX11_choice_5 lX11_171 rfl (Nat.le_of_ble_eq_true rfl) (Nat.le_of_ble_eq_true rfl) rfl ?_
  refine c_hasSort (by omega) (fun g5 => ?_) (fun g5 => ?_)
  · skip
    try simp only [Int.toNat_natCast] at g5
    have gL := g5
    show ab_X (d + 6) mX11_choice 8 [(0, .ref 0), (1, .int (iI s)), (2, .int (iI k))] [.int (iI 1)] h _
    refine z_if_eq (tgt := 21) dX11_choice_8 (by decide) (by decide) (fun c8 => absurd c8 (by decide)) (fun _ => ?_)
    refine ab_iload_n (k := 2) dX11_choice_11 rfl rfl ?_
    refine z_iconst dX11_choice_12 ?_
    refine z_icmp_lt (tgt := 21) dX11_choice_13 (by decide) (by omega) (by decide) (fun c13 => ?_) (fun c13 => ?_)
    · skip
      refine z_iconst dX11_choice_21 ?_
      refine z_iret dX11_choice_22 rfl ?_
      exact k0 (by omega)
    · skip
      refine ab_iload_n (k := 2) dX11_choice_16 rfl rfl ?_
      refine z_iconst dX11_choice_17 ?_
      refine z_icmp_le (tgt := 23) dX11_choice_18 (by decide) (by omega) (by decide) (fun c18 => ?_) (fun c18 => ?_)
      · skip
        refine ab_aload_n (k := 0) dX11_choice_23 rfl rfl ?_
        refine ab_callV (As := []) (rest := []) dX11_choice_24 lX11_187 rfl (Nat.le_of_ble_eq_true rfl) (Nat.le_of_ble_eq_true rfl) rfl ?_
        refine c_lookC hn hn2 (fun h1 hs1 hG1 => ?_)
        have e150 : zv h1 15 0 = zv h 15 0 := hs1.1 15 0 (by decide)
        have e153 : zv h1 15 3 = zv h 15 3 := hs1.1 15 3 (by decide)
        show ab_X (d + 6) mX11_choice 27 [(0, .ref 0), (1, .int (iI s)), (2, .int (iI k))] [] h1 _
        refine ab_aload_n (k := 0) dX11_choice_27 rfl rfl ?_
        refine z_getP (b := 15) dX11_choice_28 fX11_35 rfl rfl rfl ?_
        refine ab_iload_n (k := 1) dX11_choice_31 rfl rfl ?_
        refine ab_callV (As := [.int (iI s)]) (rest := []) dX11_choice_32 lX11_174 rfl (Nat.le_of_ble_eq_true rfl) (Nat.le_of_ble_eq_true rfl) rfl ?_
        refine c_lengthOf (by omega) (by omega) (fun _ => ?_) (fun q => absurd (show _ from ⟨by omega, by omega⟩) q)
        show ab_X (d + 6) mX11_choice 35 [(0, .ref 0), (1, .int (iI s)), (2, .int (iI k))] [.int (iI (zv h1 16 s.toNat))] h1 _
        refine z_is (y := (L : Int)) ((hs1.1 16 _ (by decide)).trans (hL (by omega)).1) ?_
        refine ab_istore_n (ls' := [(3, .int (iI (L : Int))), (0, .ref 0), (1, .int (iI s)), (2, .int (iI k))]) dX11_choice_35 rfl (by decide) rfl ?_
        refine z_iconst dX11_choice_36 ?_
        refine ab_istore (ls' := [(4, .int (iI (-1))), (3, .int (iI (L : Int))), (0, .ref 0), (1, .int (iI s)), (2, .int (iI k))]) dX11_choice_37 (by decide) rfl ?_
        refine z_iconst dX11_choice_39 ?_
        refine ab_istore (ls' := [(5, .int (iI 0)), (4, .int (iI (-1))), (3, .int (iI (L : Int))), (0, .ref 0), (1, .int (iI s)), (2, .int (iI k))]) dX11_choice_40 (by decide) rfl ?_
        refine z_iconst dX11_choice_42 ?_
        refine ab_istore (ls' := [(6, .int (iI 0)), (5, .int (iI 0)), (4, .int (iI (-1))), (3, .int (iI (L : Int))), (0, .ref 0), (1, .int (iI s)), (2, .int (iI k))]) dX11_choice_43 (by decide) rfl ?_
        refine ab_sub (ls' := [(0, .ref 0), (2, .int (iI k)), (3, .int (iI (L : Int))), (4, .int (iI (-1))), (5, .int (iI 0)), (6, .int (iI 0))]) (ks := [4, 6, 3, 2, 1, 0]) rfl ?_
        have hLb := (hL (by omega)).2
        exact lp_choice1 hn2 (fun y hy => cfr_end hy) hLb (by omega) hG1 (rOK_m r0 hs1) ((hs1.1 36 2 (by decide)).trans hc0) (fun h' D' => k1 (by omega) h' (DC_of hs1 D')) _ 0 h1 rfl (by omega) DW.rf
      · skip
        refine z_iconst dX11_choice_21 ?_
        refine z_iret dX11_choice_22 rfl ?_
        exact k0 (by omega)
  · skip
    try simp only [Int.toNat_natCast] at g5
    have gL := g5
    show ab_X (d + 6) mX11_choice 8 [(0, .ref 0), (1, .int (iI s)), (2, .int (iI k))] [.int (iI 0)] h _
    refine z_if_eq (tgt := 21) dX11_choice_8 (by decide) (by decide) (fun _ => ?_) (fun c8 => absurd c8 (by decide))
    refine z_iconst dX11_choice_21 ?_
    refine z_iret dX11_choice_22 rfl ?_
    exact k0 (by omega)
theorem c_where {d : Nat} {h : ab_H} {Q : ab_Q} {s k : Int} {n L : Nat} {hd rc nc : Int} {c : List (Int × Int)} (hs : inR s) (hk : inR k) (hn : zv h 15 0 = n) (hn2 : n ≤ 20) (hN : zv h 15 3 ≤ 4) (hL : 0 ≤ s ∧ s < zv h 15 3 → zv h 16 s.toNat = L ∧ 1 ≤ L ∧ L ≤ 9) (r0 : rOK h hd rc c) (hc0 : zv h 36 2 = nc) (k0 : ¬ ((0 ≤ s ∧ s < zv h 15 3) ∧ 1 ≤ k ∧ k ≤ 4) → Q (some (.int (iI (-1)))) h) (k1 : ((0 ≤ s ∧ s < zv h 15 3) ∧ 1 ≤ k ∧ k ≤ 4) → ∀ h', DC h h' → Q (some (.int (iI ((cbf (fC (cfr h n) k hd c L nc) (pls (cfr h n) L n)).1)))) h') : ab_X (d + 7) mX11_where 0 (lv_args 0 [.ref 0, .int (iI s), .int (iI k)]) [] h Q := by
  show ab_X (d + 7) mX11_where 0 [(0, .ref 0), (1, .int (iI s)), (2, .int (iI k))] [] h Q
  obtain ⟨v, ev⟩ : ∃ v, v = (cbf (fC (cfr h n) k hd c L nc) (pls (cfr h n) L n)).1 := ⟨_, rfl⟩
  have hv : v = -1 ∨ ∃ p ∈ pls (cfr h n) L n, v = (p : Int) := by rw [ev]; exact cbf_in _ _
  refine ab_aload_n (k := 0) dX11_where_0 rfl rfl ?_
  refine ab_iload_n (k := 1) dX11_where_1 rfl rfl ?_
  refine ab_iload_n (k := 2) dX11_where_2 rfl rfl ?_
  refine ab_callV (As := [.int (iI s), .int (iI k)]) (rest := []) dX11_where_3 lX11_197 rfl (Nat.le_of_ble_eq_true rfl) (Nat.le_of_ble_eq_true rfl) rfl ?_
  refine c_choice (nc := nc) hs hk hn hn2 hN hL r0 hc0 (fun g9 => ?_) (fun g9 j9 D9 => ?_)
  · skip
    show ab_X (d + 7) mX11_where 6 [(0, .ref 0), (1, .int (iI s)), (2, .int (iI k))] [.int (iI (-1))] h _
    refine z_iret dX11_where_6 rfl ?_
    first | exact k0 g9 | (have z := k1 g9 j9 D9; rw [← ev] at z; exact z)
  · skip
    rw [← ev]
    show ab_X (d + 7) mX11_where 6 [(0, .ref 0), (1, .int (iI s)), (2, .int (iI k))] [.int (iI v)] j9 _
    refine z_iret dX11_where_6 rfl ?_
    first | exact k0 g9 | (have z := k1 g9 j9 D9; rw [← ev] at z; exact z)
theorem c_park {d : Nat} {h : ab_H} {Q : ab_Q} {s k : Int} {n L : Nat} {hd rc nc : Int} {c : List (Int × Int)} {x : Nat} (hs : inR s) (hk : inR k) (hn : zv h 15 0 = n) (hn2 : n ≤ 20) (hN : zv h 15 3 ≤ 4) (hL : 0 ≤ s ∧ s < zv h 15 3 → zv h 16 s.toNat = L ∧ 1 ≤ L ∧ L ≤ 9) (r0 : rOK h hd rc c) (hc0 : zv h 36 2 = nc) (hx : zv h 165 1 = x) (hx2 : x < 40) (hA : 0 ≤ zv h 165 2 ∧ zv h 165 2 ≤ 40) (hc : zv h 36 2 ≤ 1000) (k0 : ¬ ((0 ≤ s ∧ s < zv h 15 3) ∧ 1 ≤ k ∧ k ≤ 4) → Q (some (.int (iI (-1)))) h) (k1 : ((0 ≤ s ∧ s < zv h 15 3) ∧ 1 ≤ k ∧ k ≤ 4) → ∀ h', DC h h' → (cbf (fC (cfr h n) k hd c L nc) (pls (cfr h n) L n)).1 = -1 → Q (some (.int (iI (-1)))) h') (k2 : ((0 ≤ s ∧ s < zv h 15 3) ∧ 1 ≤ k ∧ k ≤ 4) → ∀ (p : Nat) h1 hk h2, (cbf (fC (cfr h n) k hd c L nc) (pls (cfr h n) L n)).1 = p → p ∈ pls (cfr h n) L n → DC h h1 → kepR h1 hk → entR hk h2 p L s → Q (some (.int (iI (p : Int)))) h2) : ab_X (d + 7) mX11_park 0 (lv_args 0 [.ref 0, .int (iI s), .int (iI k)]) [] h Q := by
  show ab_X (d + 7) mX11_park 0 [(0, .ref 0), (1, .int (iI s)), (2, .int (iI k))] [] h Q
  obtain ⟨v, ev⟩ : ∃ v, v = (cbf (fC (cfr h n) k hd c L nc) (pls (cfr h n) L n)).1 := ⟨_, rfl⟩
  have hv : v = -1 ∨ ∃ p ∈ pls (cfr h n) L n, v = (p : Int) := by rw [ev]; exact cbf_in _ _
  have hvR : inR v := by
    rcases hv with q | ⟨p, hp, q⟩
    · rw [q]; decide
    · have := List.mem_range.mp (List.mem_filter.mp hp).1
      omega
  refine ab_aload_n (k := 0) dX11_park_0 rfl rfl ?_
  refine ab_iload_n (k := 1) dX11_park_1 rfl rfl ?_
  refine ab_iload_n (k := 2) dX11_park_2 rfl rfl ?_
  refine ab_callV (As := [.int (iI s), .int (iI k)]) (rest := []) dX11_park_3 lX11_197 rfl (Nat.le_of_ble_eq_true rfl) (Nat.le_of_ble_eq_true rfl) rfl ?_
  refine c_choice (nc := nc) hs hk hn hn2 hN hL r0 hc0 (fun g9 => ?_) (fun g9 j9 D9 => ?_)
  · skip
    show ab_X (d + 7) mX11_park 6 [(0, .ref 0), (1, .int (iI s)), (2, .int (iI k))] [.int (iI (-1))] h _
    refine ab_istore_n (ls' := [(3, .int (iI (-1))), (0, .ref 0), (1, .int (iI s)), (2, .int (iI k))]) dX11_park_6 rfl (by decide) rfl ?_
    refine ab_iload_n (k := 0) dX11_park_7 rfl rfl ?_
    refine z_iconst dX11_park_8 ?_
    refine z_icmp_ne (tgt := 14) dX11_park_9 (by decide) (by decide) (by decide) (fun c9 => absurd c9 (by decide)) (fun _ => ?_)
    refine z_iconst dX11_park_12 ?_
    refine z_iret dX11_park_13 rfl ?_
    first | exact k0 g9 | exact k1 g9 j9 D9 (by omega)
  · skip
    rw [← ev]
    show ab_X (d + 7) mX11_park 6 [(0, .ref 0), (1, .int (iI s)), (2, .int (iI k))] [.int (iI v)] j9 _
    refine ab_istore_n (ls' := [(3, .int (iI v)), (0, .ref 0), (1, .int (iI s)), (2, .int (iI k))]) dX11_park_6 rfl (by decide) rfl ?_
    refine ab_iload_n (k := 0) dX11_park_7 rfl rfl ?_
    refine z_iconst dX11_park_8 ?_
    refine z_icmp_ne (tgt := 14) dX11_park_9 (by decide) (by omega) (by decide) (fun c9 => ?_) (fun c9 => ?_)
    · skip
      refine ab_sub (ls' := [(0, .ref 0), (1, .int (iI s)), (3, .int (iI v))]) (ks := [1, 2, 0]) rfl ?_
      obtain ⟨p, hp, rfl⟩ : ∃ p : Nat, p ∈ pls (cfr h n) L n ∧ v = (p : Int) := by
        rcases hv with q | ⟨p, hp, q⟩
        · omega
        · exact ⟨p, hp, q⟩
      have hLb := (hL (by omega)).2
      have hpL := (allf_cfr hLb.1).mp (List.mem_filter.mp hp).2
      refine ab_aload_n (k := 0) dX11_park_14 rfl rfl ?_
      refine z_getP (b := 165) dX11_park_15 fX11_66 rfl rfl rfl ?_
      refine ab_aload_n (k := 0) dX11_park_18 rfl rfl ?_
      refine z_getP (b := 36) dX11_park_19 fX11_53 rfl rfl rfl ?_
      refine ab_callV (As := [.ref 36]) (rest := []) dX11_park_22 lX11_200 rfl (Nat.le_of_ble_eq_true rfl) (Nat.le_of_ble_eq_true rfl) rfl ?_
      refine c_keep0 (x := x) ((D9 165 1 (by omega)).trans hx) hx2 (by rw [D9 165 2 (by omega)]; exact hA.1) (by rw [D9 165 2 (by omega)]; exact hA.2) (fun h1 hcp => ?_)
      obtain ⟨hk, ehk⟩ : ∃ z : ab_H, z = zp (zp h1 165 1 (((x + 1) % 40 : Nat) : Int)) 165 2 (min (zv j9 165 2 + 1) 40) := ⟨_, rfl⟩
      rw [← ehk]
      have hkep : kepR j9 hk := ⟨x, h1, (D9 165 1 (by omega)).trans hx, hx2, hcp, ehk⟩
      have ek3 : zv hk 15 3 = zv h 15 3 := (kep_o hkep (by omega)).trans (D9 15 3 (by omega))
      have ek2 : zv hk 36 2 = zv h 36 2 := (kep_o hkep (by omega)).trans (D9 36 2 (by omega))
      show ab_X (d + 7) mX11_park 25 [(0, .ref 0), (1, .int (iI s)), (3, .int (iI (p : Int)))] [] hk _
      refine ab_aload_n (k := 0) dX11_park_25 rfl rfl ?_
      refine z_getP (b := 36) dX11_park_26 fX11_53 rfl rfl rfl ?_
      refine ab_iload_n (k := 2) dX11_park_29 rfl rfl ?_
      refine ab_aload_n (k := 0) dX11_park_30 rfl rfl ?_
      refine z_getP (b := 15) dX11_park_31 fX11_35 rfl rfl rfl ?_
      refine ab_iload_n (k := 1) dX11_park_34 rfl rfl ?_
      refine ab_callV (As := [.int (iI s)]) (rest := [.int (iI (p : Int)), .ref 36]) dX11_park_35 lX11_174 rfl (Nat.le_of_ble_eq_true rfl) (Nat.le_of_ble_eq_true rfl) rfl ?_
      refine c_lengthOf (by omega) (by omega) (fun _ => ?_) (fun q => absurd (show _ from ⟨by omega, by omega⟩) q)
      rw [show zv hk 16 s.toNat = (L : Int) from ((kep_o hkep (by omega)).trans (D9 16 _ (by omega))).trans (hL (by omega)).1]
      show ab_X (d + 7) mX11_park 38 [(0, .ref 0), (1, .int (iI s)), (3, .int (iI (p : Int)))] [.int (iI (L : Int)), .int (iI (p : Int)), .ref 36] hk _
      refine ab_iload_n (k := 1) dX11_park_38 rfl rfl ?_
      refine ab_callV (As := [.int (iI (p : Int)), .int (iI (L : Int)), .int (iI s)]) (rest := []) dX11_park_39 lX11_203 rfl (Nat.le_of_ble_eq_true rfl) (Nat.le_of_ble_eq_true rfl) rfl ?_
      refine ct_enter (p := p) (l := L) (by omega) (by omega) (by omega) (by omega) (fun h2 he2 => ?_)
      show ab_X (d + 7) mX11_park 42 [(0, .ref 0), (1, .int (iI s)), (3, .int (iI (p : Int)))] [] h2 _
      refine ab_iload_n (k := 2) dX11_park_42 rfl rfl ?_
      refine z_iret dX11_park_43 rfl ?_
      exact k2 g9 p j9 hk h2 ev.symm hp D9 hkep he2
    · skip
      refine z_iconst dX11_park_12 ?_
      refine z_iret dX11_park_13 rfl ?_
      first | exact k0 g9 | exact k1 g9 j9 D9 (by omega)
