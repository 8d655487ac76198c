/-! WHERE a car stops: the class's choice -/
def DW (h h' : ab_H) : Prop := ∀ b j, ¬ (b = 199 ∨ (20 ≤ b ∧ b < 36 ∧ (b % 4 = 3 ∨ (b % 4 = 0 ∧ ¬ j = 3)))) → zv h' b j = zv h b j
theorem DW.rf {h : ab_H} : DW h h := fun _ _ _ => rfl
theorem DW.tr {a b c : ab_H} (x : DW a b) (y : DW b c) : DW a c := fun p q r => (y p q r).trans (x p q r)
def lenv (p l a b n : Int) (j : Nat) : Int := if j = 0 then p else if j = 1 then l else if j = 2 then a else if j = 3 then b else n
def rOK (h : ab_H) (hd rc : Int) (c : List (Int × Int)) : Prop := zv h 0 6 = hd ∧ zv h 0 5 = rc ∧ -1 ≤ hd ∧ hd < rc ∧ rc ≤ 4 ∧ c.length ≤ 160 ∧ (0 ≤ hd → CCr (20 + 4 * hd.toNat) h c)
def wth (hd : Int) (c : List (Int × Int)) (p l a b n : Int) : Int := if hd < 0 then 0 else wrt (lenv p l a b n) c 0 0 []
theorem c_kworth0 {d : Nat} {h : ab_H} {Q : ab_Q} {p l a b n : Int} {c : List (Int × Int)}  (hp : inR p) (hl : inR l) (ha : inR a) (hb : inR b) (hh : zv h 0 6 = 0) (hr : 0 < zv h 0 5) (hn : zv h 36 2 = n) (C : CCr 20 h c) (hc : c.length ≤ 160) (K : ∀ h', DW h h' → Q (some (.int (iI (wrt (lenv p l a b n) c 0 0 [])))) h') : ab_X (d + 4) mX11_worth 0 (lv_args 0 [.ref 0, .int (iI p), .int (iI l), .int (iI a), .int (iI b)]) [] h Q := by
  show ab_X (d + 4) mX11_worth 0 [(0, .ref 0), (1, .int (iI p)), (2, .int (iI l)), (3, .int (iI a)), (4, .int (iI b))] [] h Q
  have hnR := zv_R h 36 2
  rw [hn] at hnR
  refine ab_aload_n (k := 0) dX11_worth_0 rfl rfl ?_
  refine z_getI dX11_worth_1 fX11_46 rfl (Or.inl rfl) ?_
  refine z_is (y := 0) hh ?_
  refine z_if_lt (tgt := 18) dX11_worth_4 (by decide) (by decide) (fun c4 => absurd c4 (by decide)) (fun _ => ?_)
  refine ab_aload_n (k := 0) dX11_worth_7 rfl rfl ?_
  refine z_getI dX11_worth_8 fX11_46 rfl (Or.inl rfl) ?_
  refine z_is (y := 0) hh ?_
  refine ab_aload_n (k := 0) dX11_worth_11 rfl rfl ?_
  refine z_getI dX11_worth_12 fX11_146 rfl (Or.inl rfl) ?_
  have b1 := zv_R h 0 5
  refine z_icmp_lt (tgt := 20) dX11_worth_15 (by decide) (by decide) (by omega) (fun c15 => ?_) (fun c15 => absurd c15 (by omega))
  refine ab_aload_n (k := 0) dX11_worth_20 rfl rfl ?_
  refine z_getP (b := 199) dX11_worth_21 fX11_100 rfl rfl rfl ?_
  refine z_iconst dX11_worth_24 ?_
  refine ab_iload_n (k := 1) dX11_worth_25 rfl rfl ?_
  refine z_iast dX11_worth_26 rfl (by omega) (by omega) ?_
  refine ab_aload_n (k := 0) dX11_worth_27 rfl rfl ?_
  refine z_getP (b := 199) dX11_worth_28 fX11_100 rfl rfl rfl ?_
  refine z_iconst dX11_worth_31 ?_
  refine ab_iload_n (k := 2) dX11_worth_32 rfl rfl ?_
  refine z_iast dX11_worth_33 rfl (by omega) (by omega) ?_
  refine ab_aload_n (k := 0) dX11_worth_34 rfl rfl ?_
  refine z_getP (b := 199) dX11_worth_35 fX11_100 rfl rfl rfl ?_
  refine z_iconst dX11_worth_38 ?_
  refine ab_iload_n (k := 3) dX11_worth_39 rfl rfl ?_
  refine z_iast dX11_worth_40 rfl (by omega) (by omega) ?_
  refine ab_aload_n (k := 0) dX11_worth_41 rfl rfl ?_
  refine z_getP (b := 199) dX11_worth_42 fX11_100 rfl rfl rfl ?_
  refine z_iconst dX11_worth_45 ?_
  refine ab_iload (k := 4) dX11_worth_46 rfl ?_
  refine z_iast dX11_worth_48 rfl (by omega) (by omega) ?_
  refine ab_aload_n (k := 0) dX11_worth_49 rfl rfl ?_
  refine z_getP (b := 199) dX11_worth_50 fX11_100 rfl rfl rfl ?_
  refine z_iconst dX11_worth_53 ?_
  refine ab_aload_n (k := 0) dX11_worth_54 rfl rfl ?_
  refine z_getP (b := 36) dX11_worth_55 fX11_53 rfl rfl rfl ?_
  refine z_getI dX11_worth_58 fX11_224 rfl (Or.inl rfl) ?_
  refine z_is (y := zv h 36 2) ((((zv_zp_a (by decide)).trans (zv_zp_a (by decide))).trans (zv_zp_a (by decide))).trans (zv_zp_a (by decide))) ?_
  refine z_is (y := n) hn ?_
  refine z_iast dX11_worth_61 rfl (by omega) (by omega) ?_
  refine ab_aload_n (k := 0) dX11_worth_62 rfl rfl ?_
  refine z_getP (b := 19) dX11_worth_63 fX11_41 rfl rfl rfl ?_
  refine ab_aload_n (k := 0) dX11_worth_66 rfl rfl ?_
  refine z_getI dX11_worth_67 fX11_46 rfl (Or.inl rfl) ?_
  refine z_is (y := zv h 0 6) (((((zv_zp_a (by decide)).trans (zv_zp_a (by decide))).trans (zv_zp_a (by decide))).trans (zv_zp_a (by decide))).trans (zv_zp_a (by decide))) ?_
  refine z_is (y := 0) hh ?_
  refine z_aald (b := 20) dX11_worth_70 (Or.inl rfl) (by omega) (by omega) rfl ?_
  refine ab_aload_n (k := 0) dX11_worth_71 rfl rfl ?_
  refine z_getP (b := 199) dX11_worth_72 fX11_100 rfl rfl rfl ?_
  refine ab_callV (As := [.ref 199]) (rest := []) dX11_worth_75 lX11_359 rfl (Nat.le_of_ble_eq_true rfl) (Nat.le_of_ble_eq_true rfl) rfl ?_
  obtain ⟨hL, ehL⟩ : ∃ x : ab_H, x = zp (zp (zp (zp (zp h 199 0 p) 199 1 l) 199 2 a) 199 3 b) 199 4 n := ⟨_, rfl⟩
  refine z_h (h' := hL) ehL.symm ?_
  have sL : sm [199] h hL := by rw [ehL]; exact ((((sm_zp (by decide)).trans (sm_zp (by decide))).trans (sm_zp (by decide))).trans (sm_zp (by decide))).trans (sm_zp (by decide))
  refine c_worth0 (c := c) (env := lenv p l a b n) (CCr_sm C sL (by decide) (by decide) (by decide)) hc (fun j hj => ?_) (fun g75 s75 t75 => ?_)
  · rw [ehL]
    rcases (show j = 0 ∨ j = 1 ∨ j = 2 ∨ j = 3 ∨ j = 4 by omega) with rfl | rfl | rfl | rfl | rfl
    · rw [zv_zp_ne (by decide), zv_zp_ne (by decide), zv_zp_ne (by decide), zv_zp_ne (by decide), zv_zp_s hp]; rfl
    · rw [zv_zp_ne (by decide), zv_zp_ne (by decide), zv_zp_ne (by decide), zv_zp_s hl]; rfl
    · rw [zv_zp_ne (by decide), zv_zp_ne (by decide), zv_zp_s ha]; rfl
    · rw [zv_zp_ne (by decide), zv_zp_s hb]; rfl
    · rw [zv_zp_s hnR]; rfl
  show ab_X (d + 4) mX11_worth 78 [(0, .ref 0), (1, .int (iI p)), (2, .int (iI l)), (3, .int (iI a)), (4, .int (iI b))] [.int (iI (wrt (lenv p l a b n) c 0 0 []))] g75 _
  refine z_iret dX11_worth_78 rfl ?_
  refine K _ (fun b j q => ?_)
  by_cases e : b = 20
  · subst e
    have ej : j = 3 := by omega
    subst ej
    rw [t75, sL.1 20 3 (by decide)]
  · rw [s75.1 b j (by simp only [List.mem_cons, List.not_mem_nil, or_false]; omega), sL.1 b j (by simp only [List.mem_cons, List.not_mem_nil, or_false]; omega)]
theorem c_kworth1 {d : Nat} {h : ab_H} {Q : ab_Q} {p l a b n : Int} {c : List (Int × Int)}  (hp : inR p) (hl : inR l) (ha : inR a) (hb : inR b) (hh : zv h 0 6 = 1) (hr : 1 < zv h 0 5) (hn : zv h 36 2 = n) (C : CCr 24 h c) (hc : c.length ≤ 160) (K : ∀ h', DW h h' → Q (some (.int (iI (wrt (lenv p l a b n) c 0 0 [])))) h') : ab_X (d + 4) mX11_worth 0 (lv_args 0 [.ref 0, .int (iI p), .int (iI l), .int (iI a), .int (iI b)]) [] h Q := by
  show ab_X (d + 4) mX11_worth 0 [(0, .ref 0), (1, .int (iI p)), (2, .int (iI l)), (3, .int (iI a)), (4, .int (iI b))] [] h Q
  have hnR := zv_R h 36 2
  rw [hn] at hnR
  refine ab_aload_n (k := 0) dX11_worth_0 rfl rfl ?_
  refine z_getI dX11_worth_1 fX11_46 rfl (Or.inl rfl) ?_
  refine z_is (y := 1) hh ?_
  refine z_if_lt (tgt := 18) dX11_worth_4 (by decide) (by decide) (fun c4 => absurd c4 (by decide)) (fun _ => ?_)
  refine ab_aload_n (k := 0) dX11_worth_7 rfl rfl ?_
  refine z_getI dX11_worth_8 fX11_46 rfl (Or.inl rfl) ?_
  refine z_is (y := 1) hh ?_
  refine ab_aload_n (k := 0) dX11_worth_11 rfl rfl ?_
  refine z_getI dX11_worth_12 fX11_146 rfl (Or.inl rfl) ?_
  have b1 := zv_R h 0 5
  refine z_icmp_lt (tgt := 20) dX11_worth_15 (by decide) (by decide) (by omega) (fun c15 => ?_) (fun c15 => absurd c15 (by omega))
  refine ab_aload_n (k := 0) dX11_worth_20 rfl rfl ?_
  refine z_getP (b := 199) dX11_worth_21 fX11_100 rfl rfl rfl ?_
  refine z_iconst dX11_worth_24 ?_
  refine ab_iload_n (k := 1) dX11_worth_25 rfl rfl ?_
  refine z_iast dX11_worth_26 rfl (by omega) (by omega) ?_
  refine ab_aload_n (k := 0) dX11_worth_27 rfl rfl ?_
  refine z_getP (b := 199) dX11_worth_28 fX11_100 rfl rfl rfl ?_
  refine z_iconst dX11_worth_31 ?_
  refine ab_iload_n (k := 2) dX11_worth_32 rfl rfl ?_
  refine z_iast dX11_worth_33 rfl (by omega) (by omega) ?_
  refine ab_aload_n (k := 0) dX11_worth_34 rfl rfl ?_
  refine z_getP (b := 199) dX11_worth_35 fX11_100 rfl rfl rfl ?_
  refine z_iconst dX11_worth_38 ?_
  refine ab_iload_n (k := 3) dX11_worth_39 rfl rfl ?_
  refine z_iast dX11_worth_40 rfl (by omega) (by omega) ?_
  refine ab_aload_n (k := 0) dX11_worth_41 rfl rfl ?_
  refine z_getP (b := 199) dX11_worth_42 fX11_100 rfl rfl rfl ?_
  refine z_iconst dX11_worth_45 ?_
  refine ab_iload (k := 4) dX11_worth_46 rfl ?_
  refine z_iast dX11_worth_48 rfl (by omega) (by omega) ?_
  refine ab_aload_n (k := 0) dX11_worth_49 rfl rfl ?_
  refine z_getP (b := 199) dX11_worth_50 fX11_100 rfl rfl rfl ?_
  refine z_iconst dX11_worth_53 ?_
  refine ab_aload_n (k := 0) dX11_worth_54 rfl rfl ?_
  refine z_getP (b := 36) dX11_worth_55 fX11_53 rfl rfl rfl ?_
  refine z_getI dX11_worth_58 fX11_224 rfl (Or.inl rfl) ?_
  refine z_is (y := zv h 36 2) ((((zv_zp_a (by decide)).trans (zv_zp_a (by decide))).trans (zv_zp_a (by decide))).trans (zv_zp_a (by decide))) ?_
  refine z_is (y := n) hn ?_
  refine z_iast dX11_worth_61 rfl (by omega) (by omega) ?_
  refine ab_aload_n (k := 0) dX11_worth_62 rfl rfl ?_
  refine z_getP (b := 19) dX11_worth_63 fX11_41 rfl rfl rfl ?_
  refine ab_aload_n (k := 0) dX11_worth_66 rfl rfl ?_
  refine z_getI dX11_worth_67 fX11_46 rfl (Or.inl rfl) ?_
  refine z_is (y := zv h 0 6) (((((zv_zp_a (by decide)).trans (zv_zp_a (by decide))).trans (zv_zp_a (by decide))).trans (zv_zp_a (by decide))).trans (zv_zp_a (by decide))) ?_
  refine z_is (y := 1) hh ?_
  refine z_aald (b := 24) dX11_worth_70 (Or.inl rfl) (by omega) (by omega) rfl ?_
  refine ab_aload_n (k := 0) dX11_worth_71 rfl rfl ?_
  refine z_getP (b := 199) dX11_worth_72 fX11_100 rfl rfl rfl ?_
  refine ab_callV (As := [.ref 199]) (rest := []) dX11_worth_75 lX11_359 rfl (Nat.le_of_ble_eq_true rfl) (Nat.le_of_ble_eq_true rfl) rfl ?_
  obtain ⟨hL, ehL⟩ : ∃ x : ab_H, x = zp (zp (zp (zp (zp h 199 0 p) 199 1 l) 199 2 a) 199 3 b) 199 4 n := ⟨_, rfl⟩
  refine z_h (h' := hL) ehL.symm ?_
  have sL : sm [199] h hL := by rw [ehL]; exact ((((sm_zp (by decide)).trans (sm_zp (by decide))).trans (sm_zp (by decide))).trans (sm_zp (by decide))).trans (sm_zp (by decide))
  refine c_worth1 (c := c) (env := lenv p l a b n) (CCr_sm C sL (by decide) (by decide) (by decide)) hc (fun j hj => ?_) (fun g75 s75 t75 => ?_)
  · rw [ehL]
    rcases (show j = 0 ∨ j = 1 ∨ j = 2 ∨ j = 3 ∨ j = 4 by omega) with rfl | rfl | rfl | rfl | rfl
    · rw [zv_zp_ne (by decide), zv_zp_ne (by decide), zv_zp_ne (by decide), zv_zp_ne (by decide), zv_zp_s hp]; rfl
    · rw [zv_zp_ne (by decide), zv_zp_ne (by decide), zv_zp_ne (by decide), zv_zp_s hl]; rfl
    · rw [zv_zp_ne (by decide), zv_zp_ne (by decide), zv_zp_s ha]; rfl
    · rw [zv_zp_ne (by decide), zv_zp_s hb]; rfl
    · rw [zv_zp_s hnR]; rfl
  show ab_X (d + 4) mX11_worth 78 [(0, .ref 0), (1, .int (iI p)), (2, .int (iI l)), (3, .int (iI a)), (4, .int (iI b))] [.int (iI (wrt (lenv p l a b n) c 0 0 []))] g75 _
  refine z_iret dX11_worth_78 rfl ?_
  refine K _ (fun b j q => ?_)
  by_cases e : b = 24
  · subst e
    have ej : j = 3 := by omega
    subst ej
    rw [t75, sL.1 24 3 (by decide)]
  · rw [s75.1 b j (by simp only [List.mem_cons, List.not_mem_nil, or_false]; omega), sL.1 b j (by simp only [List.mem_cons, List.not_mem_nil, or_false]; omega)]
theorem c_kworth2 {d : Nat} {h : ab_H} {Q : ab_Q} {p l a b n : Int} {c : List (Int × Int)}  (hp : inR p) (hl : inR l) (ha : inR a) (hb : inR b) (hh : zv h 0 6 = 2) (hr : 2 < zv h 0 5) (hn : zv h 36 2 = n) (C : CCr 28 h c) (hc : c.length ≤ 160) (K : ∀ h', DW h h' → Q (some (.int (iI (wrt (lenv p l a b n) c 0 0 [])))) h') : ab_X (d + 4) mX11_worth 0 (lv_args 0 [.ref 0, .int (iI p), .int (iI l), .int (iI a), .int (iI b)]) [] h Q := by
  show ab_X (d + 4) mX11_worth 0 [(0, .ref 0), (1, .int (iI p)), (2, .int (iI l)), (3, .int (iI a)), (4, .int (iI b))] [] h Q
  have hnR := zv_R h 36 2
  rw [hn] at hnR
  refine ab_aload_n (k := 0) dX11_worth_0 rfl rfl ?_
  refine z_getI dX11_worth_1 fX11_46 rfl (Or.inl rfl) ?_
  refine z_is (y := 2) hh ?_
  refine z_if_lt (tgt := 18) dX11_worth_4 (by decide) (by decide) (fun c4 => absurd c4 (by decide)) (fun _ => ?_)
  refine ab_aload_n (k := 0) dX11_worth_7 rfl rfl ?_
  refine z_getI dX11_worth_8 fX11_46 rfl (Or.inl rfl) ?_
  refine z_is (y := 2) hh ?_
  refine ab_aload_n (k := 0) dX11_worth_11 rfl rfl ?_
  refine z_getI dX11_worth_12 fX11_146 rfl (Or.inl rfl) ?_
  have b1 := zv_R h 0 5
  refine z_icmp_lt (tgt := 20) dX11_worth_15 (by decide) (by decide) (by omega) (fun c15 => ?_) (fun c15 => absurd c15 (by omega))
  refine ab_aload_n (k := 0) dX11_worth_20 rfl rfl ?_
  refine z_getP (b := 199) dX11_worth_21 fX11_100 rfl rfl rfl ?_
  refine z_iconst dX11_worth_24 ?_
  refine ab_iload_n (k := 1) dX11_worth_25 rfl rfl ?_
  refine z_iast dX11_worth_26 rfl (by omega) (by omega) ?_
  refine ab_aload_n (k := 0) dX11_worth_27 rfl rfl ?_
  refine z_getP (b := 199) dX11_worth_28 fX11_100 rfl rfl rfl ?_
  refine z_iconst dX11_worth_31 ?_
  refine ab_iload_n (k := 2) dX11_worth_32 rfl rfl ?_
  refine z_iast dX11_worth_33 rfl (by omega) (by omega) ?_
  refine ab_aload_n (k := 0) dX11_worth_34 rfl rfl ?_
  refine z_getP (b := 199) dX11_worth_35 fX11_100 rfl rfl rfl ?_
  refine z_iconst dX11_worth_38 ?_
  refine ab_iload_n (k := 3) dX11_worth_39 rfl rfl ?_
  refine z_iast dX11_worth_40 rfl (by omega) (by omega) ?_
  refine ab_aload_n (k := 0) dX11_worth_41 rfl rfl ?_
  refine z_getP (b := 199) dX11_worth_42 fX11_100 rfl rfl rfl ?_
  refine z_iconst dX11_worth_45 ?_
  refine ab_iload (k := 4) dX11_worth_46 rfl ?_
  refine z_iast dX11_worth_48 rfl (by omega) (by omega) ?_
  refine ab_aload_n (k := 0) dX11_worth_49 rfl rfl ?_
  refine z_getP (b := 199) dX11_worth_50 fX11_100 rfl rfl rfl ?_
  refine z_iconst dX11_worth_53 ?_
  refine ab_aload_n (k := 0) dX11_worth_54 rfl rfl ?_
  refine z_getP (b := 36) dX11_worth_55 fX11_53 rfl rfl rfl ?_
  refine z_getI dX11_worth_58 fX11_224 rfl (Or.inl rfl) ?_
  refine z_is (y := zv h 36 2) ((((zv_zp_a (by decide)).trans (zv_zp_a (by decide))).trans (zv_zp_a (by decide))).trans (zv_zp_a (by decide))) ?_
  refine z_is (y := n) hn ?_
  refine z_iast dX11_worth_61 rfl (by omega) (by omega) ?_
  refine ab_aload_n (k := 0) dX11_worth_62 rfl rfl ?_
  refine z_getP (b := 19) dX11_worth_63 fX11_41 rfl rfl rfl ?_
  refine ab_aload_n (k := 0) dX11_worth_66 rfl rfl ?_
  refine z_getI dX11_worth_67 fX11_46 rfl (Or.inl rfl) ?_
  refine z_is (y := zv h 0 6) (((((zv_zp_a (by decide)).trans (zv_zp_a (by decide))).trans (zv_zp_a (by decide))).trans (zv_zp_a (by decide))).trans (zv_zp_a (by decide))) ?_
  refine z_is (y := 2) hh ?_
  refine z_aald (b := 28) dX11_worth_70 (Or.inl rfl) (by omega) (by omega) rfl ?_
  refine ab_aload_n (k := 0) dX11_worth_71 rfl rfl ?_
  refine z_getP (b := 199) dX11_worth_72 fX11_100 rfl rfl rfl ?_
  refine ab_callV (As := [.ref 199]) (rest := []) dX11_worth_75 lX11_359 rfl (Nat.le_of_ble_eq_true rfl) (Nat.le_of_ble_eq_true rfl) rfl ?_
  obtain ⟨hL, ehL⟩ : ∃ x : ab_H, x = zp (zp (zp (zp (zp h 199 0 p) 199 1 l) 199 2 a) 199 3 b) 199 4 n := ⟨_, rfl⟩
  refine z_h (h' := hL) ehL.symm ?_
  have sL : sm [199] h hL := by rw [ehL]; exact ((((sm_zp (by decide)).trans (sm_zp (by decide))).trans (sm_zp (by decide))).trans (sm_zp (by decide))).trans (sm_zp (by decide))
  refine c_worth2 (c := c) (env := lenv p l a b n) (CCr_sm C sL (by decide) (by decide) (by decide)) hc (fun j hj => ?_) (fun g75 s75 t75 => ?_)
  · rw [ehL]
    rcases (show j = 0 ∨ j = 1 ∨ j = 2 ∨ j = 3 ∨ j = 4 by omega) with rfl | rfl | rfl | rfl | rfl
    · rw [zv_zp_ne (by decide), zv_zp_ne (by decide), zv_zp_ne (by decide), zv_zp_ne (by decide), zv_zp_s hp]; rfl
    · rw [zv_zp_ne (by decide), zv_zp_ne (by decide), zv_zp_ne (by decide), zv_zp_s hl]; rfl
    · rw [zv_zp_ne (by decide), zv_zp_ne (by decide), zv_zp_s ha]; rfl
    · rw [zv_zp_ne (by decide), zv_zp_s hb]; rfl
    · rw [zv_zp_s hnR]; rfl
  show ab_X (d + 4) mX11_worth 78 [(0, .ref 0), (1, .int (iI p)), (2, .int (iI l)), (3, .int (iI a)), (4, .int (iI b))] [.int (iI (wrt (lenv p l a b n) c 0 0 []))] g75 _
  refine z_iret dX11_worth_78 rfl ?_
  refine K _ (fun b j q => ?_)
  by_cases e : b = 28
  · subst e
    have ej : j = 3 := by omega
    subst ej
    rw [t75, sL.1 28 3 (by decide)]
  · rw [s75.1 b j (by simp only [List.mem_cons, List.not_mem_nil, or_false]; omega), sL.1 b j (by simp only [List.mem_cons, List.not_mem_nil, or_false]; omega)]
theorem c_kworth3 {d : Nat} {h : ab_H} {Q : ab_Q} {p l a b n : Int} {c : List (Int × Int)}  (hp : inR p) (hl : inR l) (ha : inR a) (hb : inR b) (hh : zv h 0 6 = 3) (hr : 3 < zv h 0 5) (hn : zv h 36 2 = n) (C : CCr 32 h c) (hc : c.length ≤ 160) (K : ∀ h', DW h h' → Q (some (.int (iI (wrt (lenv p l a b n) c 0 0 [])))) h') : ab_X (d + 4) mX11_worth 0 (lv_args 0 [.ref 0, .int (iI p), .int (iI l), .int (iI a), .int (iI b)]) [] h Q := by
  show ab_X (d + 4) mX11_worth 0 [(0, .ref 0), (1, .int (iI p)), (2, .int (iI l)), (3, .int (iI a)), (4, .int (iI b))] [] h Q
  have hnR := zv_R h 36 2
  rw [hn] at hnR
  refine ab_aload_n (k := 0) dX11_worth_0 rfl rfl ?_
  refine z_getI dX11_worth_1 fX11_46 rfl (Or.inl rfl) ?_
  refine z_is (y := 3) hh ?_
  refine z_if_lt (tgt := 18) dX11_worth_4 (by decide) (by decide) (fun c4 => absurd c4 (by decide)) (fun _ => ?_)
  refine ab_aload_n (k := 0) dX11_worth_7 rfl rfl ?_
  refine z_getI dX11_worth_8 fX11_46 rfl (Or.inl rfl) ?_
  refine z_is (y := 3) hh ?_
  refine ab_aload_n (k := 0) dX11_worth_11 rfl rfl ?_
  refine z_getI dX11_worth_12 fX11_146 rfl (Or.inl rfl) ?_
  have b1 := zv_R h 0 5
  refine z_icmp_lt (tgt := 20) dX11_worth_15 (by decide) (by decide) (by omega) (fun c15 => ?_) (fun c15 => absurd c15 (by omega))
  refine ab_aload_n (k := 0) dX11_worth_20 rfl rfl ?_
  refine z_getP (b := 199) dX11_worth_21 fX11_100 rfl rfl rfl ?_
  refine z_iconst dX11_worth_24 ?_
  refine ab_iload_n (k := 1) dX11_worth_25 rfl rfl ?_
  refine z_iast dX11_worth_26 rfl (by omega) (by omega) ?_
  refine ab_aload_n (k := 0) dX11_worth_27 rfl rfl ?_
  refine z_getP (b := 199) dX11_worth_28 fX11_100 rfl rfl rfl ?_
  refine z_iconst dX11_worth_31 ?_
  refine ab_iload_n (k := 2) dX11_worth_32 rfl rfl ?_
  refine z_iast dX11_worth_33 rfl (by omega) (by omega) ?_
  refine ab_aload_n (k := 0) dX11_worth_34 rfl rfl ?_
  refine z_getP (b := 199) dX11_worth_35 fX11_100 rfl rfl rfl ?_
  refine z_iconst dX11_worth_38 ?_
  refine ab_iload_n (k := 3) dX11_worth_39 rfl rfl ?_
  refine z_iast dX11_worth_40 rfl (by omega) (by omega) ?_
  refine ab_aload_n (k := 0) dX11_worth_41 rfl rfl ?_
  refine z_getP (b := 199) dX11_worth_42 fX11_100 rfl rfl rfl ?_
  refine z_iconst dX11_worth_45 ?_
  refine ab_iload (k := 4) dX11_worth_46 rfl ?_
  refine z_iast dX11_worth_48 rfl (by omega) (by omega) ?_
  refine ab_aload_n (k := 0) dX11_worth_49 rfl rfl ?_
  refine z_getP (b := 199) dX11_worth_50 fX11_100 rfl rfl rfl ?_
  refine z_iconst dX11_worth_53 ?_
  refine ab_aload_n (k := 0) dX11_worth_54 rfl rfl ?_
  refine z_getP (b := 36) dX11_worth_55 fX11_53 rfl rfl rfl ?_
  refine z_getI dX11_worth_58 fX11_224 rfl (Or.inl rfl) ?_
  refine z_is (y := zv h 36 2) ((((zv_zp_a (by decide)).trans (zv_zp_a (by decide))).trans (zv_zp_a (by decide))).trans (zv_zp_a (by decide))) ?_
  refine z_is (y := n) hn ?_
  refine z_iast dX11_worth_61 rfl (by omega) (by omega) ?_
  refine ab_aload_n (k := 0) dX11_worth_62 rfl rfl ?_
  refine z_getP (b := 19) dX11_worth_63 fX11_41 rfl rfl rfl ?_
  refine ab_aload_n (k := 0) dX11_worth_66 rfl rfl ?_
  refine z_getI dX11_worth_67 fX11_46 rfl (Or.inl rfl) ?_
  refine z_is (y := zv h 0 6) (((((zv_zp_a (by decide)).trans (zv_zp_a (by decide))).trans (zv_zp_a (by decide))).trans (zv_zp_a (by decide))).trans (zv_zp_a (by decide))) ?_
  refine z_is (y := 3) hh ?_
  refine z_aald (b := 32) dX11_worth_70 (Or.inl rfl) (by omega) (by omega) rfl ?_
  refine ab_aload_n (k := 0) dX11_worth_71 rfl rfl ?_
  refine z_getP (b := 199) dX11_worth_72 fX11_100 rfl rfl rfl ?_
  refine ab_callV (As := [.ref 199]) (rest := []) dX11_worth_75 lX11_359 rfl (Nat.le_of_ble_eq_true rfl) (Nat.le_of_ble_eq_true rfl) rfl ?_
  obtain ⟨hL, ehL⟩ : ∃ x : ab_H, x = zp (zp (zp (zp (zp h 199 0 p) 199 1 l) 199 2 a) 199 3 b) 199 4 n := ⟨_, rfl⟩
  refine z_h (h' := hL) ehL.symm ?_
  have sL : sm [199] h hL := by rw [ehL]; exact ((((sm_zp (by decide)).trans (sm_zp (by decide))).trans (sm_zp (by decide))).trans (sm_zp (by decide))).trans (sm_zp (by decide))
  refine c_worth3 (c := c) (env := lenv p l a b n) (CCr_sm C sL (by decide) (by decide) (by decide)) hc (fun j hj => ?_) (fun g75 s75 t75 => ?_)
  · rw [ehL]
    rcases (show j = 0 ∨ j = 1 ∨ j = 2 ∨ j = 3 ∨ j = 4 by omega) with rfl | rfl | rfl | rfl | rfl
    · rw [zv_zp_ne (by decide), zv_zp_ne (by decide), zv_zp_ne (by decide), zv_zp_ne (by decide), zv_zp_s hp]; rfl
    · rw [zv_zp_ne (by decide), zv_zp_ne (by decide), zv_zp_ne (by decide), zv_zp_s hl]; rfl
    · rw [zv_zp_ne (by decide), zv_zp_ne (by decide), zv_zp_s ha]; rfl
    · rw [zv_zp_ne (by decide), zv_zp_s hb]; rfl
    · rw [zv_zp_s hnR]; rfl
  show ab_X (d + 4) mX11_worth 78 [(0, .ref 0), (1, .int (iI p)), (2, .int (iI l)), (3, .int (iI a)), (4, .int (iI b))] [.int (iI (wrt (lenv p l a b n) c 0 0 []))] g75 _
  refine z_iret dX11_worth_78 rfl ?_
  refine K _ (fun b j q => ?_)
  by_cases e : b = 32
  · subst e
    have ej : j = 3 := by omega
    subst ej
    rw [t75, sL.1 32 3 (by decide)]
  · rw [s75.1 b j (by simp only [List.mem_cons, List.not_mem_nil, or_false]; omega), sL.1 b j (by simp only [List.mem_cons, List.not_mem_nil, or_false]; omega)]
theorem c_kworthN {d : Nat} {h : ab_H} {Q : ab_Q} {p l a b n : Int} {c : List (Int × Int)}  (hh : zv h 0 6 = -1) (K : Q (some (.int (iI 0))) h) : ab_X (d + 4) mX11_worth 0 (lv_args 0 [.ref 0, .int (iI p), .int (iI l), .int (iI a), .int (iI b)]) [] h Q := by
  show ab_X (d + 4) mX11_worth 0 [(0, .ref 0), (1, .int (iI p)), (2, .int (iI l)), (3, .int (iI a)), (4, .int (iI b))] [] h Q
  refine ab_aload_n (k := 0) dX11_worth_0 rfl rfl ?_
  refine z_getI dX11_worth_1 fX11_46 rfl (Or.inl rfl) ?_
  refine z_is (y := (-1)) hh ?_
  refine z_if_lt (tgt := 18) dX11_worth_4 (by decide) (by decide) (fun _ => ?_) (fun c4 => absurd c4 (by decide))
  refine z_iconst dX11_worth_18 ?_
  refine z_iret dX11_worth_19 rfl ?_
  exact K
theorem c_kworth {d : Nat} {h : ab_H} {Q : ab_Q} {p l a b n hd rc : Int} {c : List (Int × Int)} (hp : inR p) (hl : inR l) (ha : inR a) (hb : inR b) (r : rOK h hd rc c) (hn : zv h 36 2 = n) (K : ∀ h', DW h h' → Q (some (.int (iI (wth hd c p l a b n)))) h') : ab_X (d + 4) mX11_worth 0 (lv_args 0 [.ref 0, .int (iI p), .int (iI l), .int (iI a), .int (iI b)]) [] h Q := by
  obtain ⟨r1, r2, r3, r4, r5, r6, r7⟩ := r
  rcases (show hd = -1 ∨ hd = 0 ∨ hd = 1 ∨ hd = 2 ∨ hd = 3 by omega) with e | e | e | e | e
  · subst e; exact c_kworthN (c := c) (n := n) r1 (K h DW.rf)
  · subst e; exact c_kworth0 hp hl ha hb r1 (by omega) hn (r7 (by decide)) r6 (fun h' q => K h' q)
  · subst e; exact c_kworth1 hp hl ha hb r1 (by omega) hn (r7 (by decide)) r6 (fun h' q => K h' q)
  · subst e; exact c_kworth2 hp hl ha hb r1 (by omega) hn (r7 (by decide)) r6 (fun h' q => K h' q)
  · subst e; exact c_kworth3 hp hl ha hb r1 (by omega) hn (r7 (by decide)) r6 (fun h' q => K h' q)
/-- how little a parker likes a place -/
def dsl (k : Int) (hd : Int) (c : List (Int × Int)) (p l a b n : Int) : Int := if k = 1 then min a b else if k = 2 then -(wth hd c p l a b n) else if k = 4 then pIn a l + pIn b l - pIn (a + l + b) l else 0
theorem wrt_R {env : Nat → Int} (he : ∀ j, inR (env j)) : ∀ (c : List (Int × Int)) (i : Nat) (f : Int) (st : List Int), (∀ q ∈ c, inR q.2) → (∀ v ∈ st, inR v) → inR (wrt env c i f st)
  | [], _, _, _, _, _ => by show inR 0; decide
  | q :: c, i, f, st, hc, hs => by
    have hq := hc q List.mem_cons_self
    have hc' : ∀ q ∈ c, inR q.2 := fun x hx => hc x (List.mem_cons_of_mem _ hx)
    have hh : inR (st.headD 0) := by cases st with
      | nil => decide
      | cons v st => exact hs v List.mem_cons_self
    have ht : ∀ v ∈ st.tail, inR v := fun v hv => hs v (List.mem_of_mem_tail hv)
    have hp : ∀ (v : Int) (s : List Int), inR v → (∀ v ∈ s, inR v) → ∀ x ∈ puS v s, inR x := fun v s h1 h2 x hx => by
      unfold puS at hx
      split at hx
      · rcases List.mem_cons.mp hx with e | e
        · rw [e]; exact h1
        · exact h2 x e
      · exact h2 x hx
    show inR (if _ then _ else _)
    split
    · exact wrt_R he c _ _ _ hc' hs
    · split
      · exact hh
      · split
        · exact wrt_R he c _ _ _ hc' ht
        · refine wrt_R he c _ _ _ hc' ?_
          unfold sp1
          split
          · exact hp _ _ hq hs
          · split
            · refine hp _ _ ?_ hs
              split
              · exact he _
              · decide
            · split
              · refine hp _ _ ?_ ht
                split <;> decide
              · exact hp _ _ (jn_R _ _ _) (fun v hv => ht v (List.mem_of_mem_tail hv))
theorem pIn_b2 {y l : Int} (hy : 0 ≤ y ∧ y ≤ 100) (hl : 0 ≤ l ∧ l ≤ 100) : 0 ≤ pIn y l ∧ pIn y l ≤ 101 := by unfold pIn; split <;> omega
theorem c_dislike {d : Nat} {h : ab_H} {Q : ab_Q} {p l a b n : Int} {c : List (Int × Int)} {k hd rc : Int}  (hk : 1 ≤ k ∧ k ≤ 4) (hp : inR p) (hl : inR l) (hl2 : 0 ≤ l ∧ l ≤ 20) (ha : 0 ≤ a ∧ a ≤ 20) (hb : 0 ≤ b ∧ b ≤ 20) (r : rOK h hd rc c) (hn : zv h 36 2 = n) (K : ∀ h', DW h h' → Q (some (.int (iI (dsl k hd c p l a b n)))) h') : ab_X (d + 5) mX11_dislike 0 (lv_args 0 [.ref 0, .int (iI k), .int (iI p), .int (iI l), .int (iI a), .int (iI b)]) [] h Q := by
  show ab_X (d + 5) mX11_dislike 0 [(0, .ref 0), (1, .int (iI k)), (2, .int (iI p)), (3, .int (iI l)), (4, .int (iI a)), (5, .int (iI b))] [] h Q
  refine ab_iload_n (k := 1) dX11_dislike_0 rfl rfl ?_
  by_cases q1_0 : k = 1
  · skip
    refine z_swIn (tgt := 32) dX11_dislike_1 (by omega) (by omega) (by omega) (by rw [q1_0]; rfl) (by decide) ?_
    refine ab_iload (k := 4) dX11_dislike_32 rfl ?_
    refine ab_iload (k := 5) dX11_dislike_34 rfl ?_
    refine z_mmin dX11_dislike_36 lX11_331 (Nat.le_of_ble_eq_true rfl) (by omega) (by omega) ?_
    refine z_iret dX11_dislike_39 rfl ?_
    have K2 := K _ DW.rf
    unfold dsl at K2
    first
    | (rw [if_pos (by omega)] at K2; exact K2)
    | (rw [if_neg (by omega), if_pos (by omega)] at K2; exact K2)
    | (rw [if_neg (by omega), if_neg (by omega), if_pos (by omega)] at K2; exact K2)
    | (rw [if_neg (by omega), if_neg (by omega), if_neg (by omega)] at K2; exact K2)
  by_cases q1_1 : k = 2
  · skip
    refine z_swIn (tgt := 40) dX11_dislike_1 (by omega) (by omega) (by omega) (by rw [q1_1]; rfl) (by decide) ?_
    refine ab_aload_n (k := 0) dX11_dislike_40 rfl rfl ?_
    refine ab_iload_n (k := 2) dX11_dislike_41 rfl rfl ?_
    refine ab_iload_n (k := 3) dX11_dislike_42 rfl rfl ?_
    refine ab_iload (k := 4) dX11_dislike_43 rfl ?_
    refine ab_iload (k := 5) dX11_dislike_45 rfl ?_
    refine ab_callV (As := [.int (iI p), .int (iI l), .int (iI a), .int (iI b)]) (rest := []) dX11_dislike_47 lX11_352 rfl (Nat.le_of_ble_eq_true rfl) (Nat.le_of_ble_eq_true rfl) rfl ?_
    refine c_kworth hp hl (by omega) (by omega) r hn (fun g47 s47 => ?_)
    show ab_X (d + 5) mX11_dislike 50 [(0, .ref 0), (1, .int (iI k)), (2, .int (iI p)), (3, .int (iI l)), (4, .int (iI a)), (5, .int (iI b))] [.int (iI (wth hd c p l a b n))] g47 _
    refine z_ineg dX11_dislike_50 ?_
    refine z_iret dX11_dislike_51 rfl ?_
    have K2 := K _ s47
    unfold dsl at K2
    first
    | (rw [if_pos (by omega)] at K2; exact K2)
    | (rw [if_neg (by omega), if_pos (by omega)] at K2; exact K2)
    | (rw [if_neg (by omega), if_neg (by omega), if_pos (by omega)] at K2; exact K2)
    | (rw [if_neg (by omega), if_neg (by omega), if_neg (by omega)] at K2; exact K2)
  by_cases q1_2 : k = 3
  · skip
    refine z_swIn (tgt := 78) dX11_dislike_1 (by omega) (by omega) (by omega) (by rw [q1_2]; rfl) (by decide) ?_
    refine z_iconst dX11_dislike_78 ?_
    refine z_iret dX11_dislike_79 rfl ?_
    have K2 := K _ DW.rf
    unfold dsl at K2
    first
    | (rw [if_pos (by omega)] at K2; exact K2)
    | (rw [if_neg (by omega), if_pos (by omega)] at K2; exact K2)
    | (rw [if_neg (by omega), if_neg (by omega), if_pos (by omega)] at K2; exact K2)
    | (rw [if_neg (by omega), if_neg (by omega), if_neg (by omega)] at K2; exact K2)
  by_cases q1_3 : k = 4
  · skip
    refine z_swIn (tgt := 52) dX11_dislike_1 (by omega) (by omega) (by omega) (by rw [q1_3]; rfl) (by decide) ?_
    refine ab_iload (k := 4) dX11_dislike_52 rfl ?_
    refine ab_iload_n (k := 3) dX11_dislike_54 rfl rfl ?_
    refine ab_callS (As := [.int (iI a), .int (iI l)]) (rest := []) dX11_dislike_55 lX11_356 (Nat.le_of_ble_eq_true rfl) (Nat.le_of_ble_eq_true rfl) rfl ?_
    refine c_placesIn (by omega) (by omega) ?_
    have bp55 := pIn_b2 (y := a) (l := l) (by omega) (by omega)
    show ab_X (d + 5) mX11_dislike 58 [(0, .ref 0), (1, .int (iI k)), (2, .int (iI p)), (3, .int (iI l)), (4, .int (iI a)), (5, .int (iI b))] [.int (iI (pIn (a) (l)))] h _
    refine ab_iload (k := 5) dX11_dislike_58 rfl ?_
    refine ab_iload_n (k := 3) dX11_dislike_60 rfl rfl ?_
    refine ab_callS (As := [.int (iI b), .int (iI l)]) (rest := [.int (iI (pIn (a) (l)))]) dX11_dislike_61 lX11_356 (Nat.le_of_ble_eq_true rfl) (Nat.le_of_ble_eq_true rfl) rfl ?_
    refine c_placesIn (by omega) (by omega) ?_
    have bp61 := pIn_b2 (y := b) (l := l) (by omega) (by omega)
    show ab_X (d + 5) mX11_dislike 64 [(0, .ref 0), (1, .int (iI k)), (2, .int (iI p)), (3, .int (iI l)), (4, .int (iI a)), (5, .int (iI b))] [.int (iI (pIn (b) (l))), .int (iI (pIn (a) (l)))] h _
    refine z_iadd dX11_dislike_64 ?_
    refine ab_iload (k := 4) dX11_dislike_65 rfl ?_
    refine ab_iload_n (k := 3) dX11_dislike_67 rfl rfl ?_
    refine z_iadd dX11_dislike_68 ?_
    refine ab_iload (k := 5) dX11_dislike_69 rfl ?_
    refine z_iadd dX11_dislike_71 ?_
    refine ab_iload_n (k := 3) dX11_dislike_72 rfl rfl ?_
    refine ab_callS (As := [.int (iI ((a + l) + b)), .int (iI l)]) (rest := [.int (iI ((pIn (a) (l)) + (pIn (b) (l))))]) dX11_dislike_73 lX11_356 (Nat.le_of_ble_eq_true rfl) (Nat.le_of_ble_eq_true rfl) rfl ?_
    refine c_placesIn (by omega) (by omega) ?_
    have bp73 := pIn_b2 (y := (a + l) + b) (l := l) (by omega) (by omega)
    show ab_X (d + 5) mX11_dislike 76 [(0, .ref 0), (1, .int (iI k)), (2, .int (iI p)), (3, .int (iI l)), (4, .int (iI a)), (5, .int (iI b))] [.int (iI (pIn ((a + l) + b) (l))), .int (iI ((pIn (a) (l)) + (pIn (b) (l))))] h _
    refine z_isub dX11_dislike_76 ?_
    refine z_iret dX11_dislike_77 rfl ?_
    have K2 := K _ DW.rf
    unfold dsl at K2
    first
    | (rw [if_pos (by omega)] at K2; exact K2)
    | (rw [if_neg (by omega), if_pos (by omega)] at K2; exact K2)
    | (rw [if_neg (by omega), if_neg (by omega), if_pos (by omega)] at K2; exact K2)
    | (rw [if_neg (by omega), if_neg (by omega), if_neg (by omega)] at K2; exact K2)
  refine z_swOut (tgt := 78) dX11_dislike_1 (by omega) (by omega) (by decide) ?_
  refine z_iconst dX11_dislike_78 ?_
  refine z_iret dX11_dislike_79 rfl ?_
  have K2 := K _ DW.rf
  unfold dsl at K2
  first
  | (rw [if_pos (by omega)] at K2; exact K2)
  | (rw [if_neg (by omega), if_pos (by omega)] at K2; exact K2)
  | (rw [if_neg (by omega), if_neg (by omega), if_pos (by omega)] at K2; exact K2)
  | (rw [if_neg (by omega), if_neg (by omega), if_neg (by omega)] at K2; exact K2)
