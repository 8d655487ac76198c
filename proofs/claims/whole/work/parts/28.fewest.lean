/-! FEWEST, both sides -/
def fNext (l n : Nat) (t : Nat → Int) : Int := if n < l then 0 else nT (fun p => 1 + t p + t (n - l - p)) 20 (n - l + 1)
def fTb (l : Nat) : Nat → Nat → Int
  | 0 => fun _ => 0
  | n + 1 => fun j => if j = n then fNext l n (fTb l n) else fTb l n j
theorem fTb_n (l n : Nat) : fTb l (n + 1) n = fNext l n (fTb l n) := if_pos rfl
theorem fTb_o {l n j : Nat} (h : j ≠ n) : fTb l (n + 1) j = fTb l n j := if_neg h
theorem nT_0 {f : Nat → Int} {a : Int} : ∀ n, 0 < n → nT f a n ≤ f 0
  | 0, h => absurd h (by omega)
  | n + 1, _ => by
    rw [nT_s]
    by_cases e : n = 0
    · subst e; omega
    · have := nT_0 (f := f) (a := a) n (by omega); omega
theorem nT_lo {f : Nat → Int} {a b : Int} : ∀ n, b ≤ a → (∀ i, i < n → b ≤ f i) → b ≤ nT f a n
  | 0, h, _ => h
  | n + 1, h, g => by rw [nT_s]; have := nT_lo (f := f) n h (fun i hi => g i (by omega)); have := g n (by omega); omega
theorem nT_hi {f : Nat → Int} {a : Int} : ∀ n, nT f a n ≤ a
  | 0 => Int.le_refl a
  | n + 1 => by rw [nT_s]; have := nT_hi (f := f) (a := a) n; omega
theorem fTb_b {l : Nat} (hl : 1 ≤ l) : ∀ n j, n ≤ 21 → j < n → 0 ≤ fTb l n j ∧ fTb l n j ≤ j
  | 0, j, _, h => absurd h (by omega)
  | n + 1, j, hn, h => by
    by_cases e : j = n
    · subst e
      rw [fTb_n]
      unfold fNext
      by_cases q : j < l
      · rw [if_pos q]; omega
      · rw [if_neg q]
        have h0 := nT_0 (f := fun p => 1 + fTb l j p + fTb l j (j - l - p)) (a := 20) (j - l + 1) (by omega)
        have b1 := fTb_b hl j 0 (by omega) (by omega)
        have b2 := fTb_b hl j (j - l) (by omega) (by omega)
        refine ⟨nT_lo _ (by decide) (fun i hi => ?_), ?_⟩
        · have c1 := fTb_b hl j i (by omega) (by omega)
          have c2 := fTb_b hl j (j - l - i) (by omega) (by omega)
          omega
        · try dsimp only at h0
          rw [Nat.sub_zero] at h0
          have e2 : ((j - l : Nat) : Int) = (j : Int) - l := by omega
          omega
    · rw [fTb_o e]; exact fTb_b hl n j (by omega) (by omega)
theorem nT_congr {f f' : Nat → Int} {a : Int} : ∀ {n : Nat}, (∀ i, i < n → f i = f' i) → nT f a n = nT f' a n
  | 0, _ => rfl
  | n + 1, h => by rw [nT_s, nT_s, nT_congr (fun i hi => h i (by omega)), h n (by omega)]
theorem nT_shift {f : Nat → Int} : ∀ n, nT (fun p => 1 + f p) 21 n = 1 + nT f 20 n
  | 0 => rfl
  | n + 1 => by rw [nT_s, nT_s, nT_shift n]; omega
theorem nT_top {f : Nat → Int} (h : f 0 ≤ 20) : ∀ n, 0 < n → nT f 21 n = nT f 20 n
  | 0, h => absurd h (by omega)
  | n + 1, _ => by
    rw [nT_s, nT_s]
    by_cases e : n = 0
    · subst e; show min 21 (f 0) = min 20 (f 0); omega
    · rw [nT_top h n (by omega)]
def ftI (h0 h : ab_H) (a l n : Nat) : Prop := sm [a] h0 h ∧ ∀ j, j < n → zv h a j = fTb l n j
theorem ftI_step {h0 h h' : ab_H} {a l n : Nat} (hI : ftI h0 h a l n) (hs : sm [a] h h') (ho : ∀ j, j ≠ n → zv h' a j = zv h a j) (hx : zv h' a n = fNext l n (fTb l n)) : ftI h0 h' a l (n + 1) := by
  refine ⟨hI.1.trans hs, fun j hj => ?_⟩
  by_cases e : j = n
  · subst e; rw [hx, fTb_n]
  · rw [ho j e, fTb_o e]; exact hI.2 j (by omega)
theorem lp_fewestBehind {d : Nat} {Q : ab_Q} {h0 : ab_H} {r : Nat} {t : Nat → Int} (hr : r ≤ 19) (hT : ∀ j, j ≤ r → zv h0 172 j = t j) (hB : ∀ j, j ≤ r → 0 ≤ t j ∧ t j ≤ j) (K : Q (some (.int (iI (nT (fun p => t p + t (r - p)) 20 (r + 1))))) h0) : ∀ (nn : Nat) (p : Nat) (a : Int) (h : ab_H), r + 1 - p = nn → (h = h0) → (p ≤ r + 1) → (a = nT (fun p => t p + t (r - p)) 20 p) → ab_X (d + 1) mX5_fewestBehind 5 [(0, .ref 170), (1, .int (iI (r : Int))), (2, .int (iI a)), (3, .int (iI (p : Int)))] [] h Q := by
  intro nn
  induction nn using Nat.strongRecOn with
  | ind nn ih =>
  intro p a h hnn hh h2 ha
  subst hh
  have hab : 0 ≤ a ∧ a ≤ 20 := by rw [ha]; exact ⟨nT_lo p (by decide) (fun i hi => by have := hB i (by omega); have := hB (r - i) (by omega); omega), nT_hi p⟩
  refine ab_iload_n (k := 3) dX5_fewestBehind_5 rfl rfl ?_
  refine ab_iload_n (k := 1) dX5_fewestBehind_6 rfl rfl ?_
  refine z_icmp_gt (tgt := 36) dX5_fewestBehind_7 (by decide) (by omega) (by omega) (fun c7 => ?_) (fun c7 => ?_)
  · skip
    refine ab_iload_n (k := 2) dX5_fewestBehind_36 rfl rfl ?_
    refine z_iret dX5_fewestBehind_37 rfl ?_
    have e : p = r + 1 := by omega
    subst e
    rw [ha]
    exact K
  · skip
    have hp1 := hB p (by omega)
    have hp2 := hB (r - p) (by omega)
    refine ab_iload_n (k := 2) dX5_fewestBehind_10 rfl rfl ?_
    refine ab_aload_n (k := 0) dX5_fewestBehind_11 rfl rfl ?_
    refine z_getP (b := 172) dX5_fewestBehind_12 fX5_15 rfl rfl rfl ?_
    refine ab_iload_n (k := 3) dX5_fewestBehind_15 rfl rfl ?_
    refine z_iald dX5_fewestBehind_16 rfl (by omega) (by omega) ?_
    simp only [Int.toNat_natCast]
    refine z_is (y := t p) (hT p (by omega)) ?_
    refine ab_aload_n (k := 0) dX5_fewestBehind_17 rfl rfl ?_
    refine z_getP (b := 172) dX5_fewestBehind_18 fX5_15 rfl rfl rfl ?_
    refine ab_iload_n (k := 1) dX5_fewestBehind_21 rfl rfl ?_
    refine ab_iload_n (k := 3) dX5_fewestBehind_22 rfl rfl ?_
    refine z_isub dX5_fewestBehind_23 ?_
    refine z_is (y := ((r - p : Nat) : Int)) (by omega) ?_
    refine z_iald dX5_fewestBehind_24 rfl (by omega) (by omega) ?_
    simp only [Int.toNat_natCast]
    refine z_is (y := t (r - p)) (hT (r - p) (by omega)) ?_
    refine z_iadd dX5_fewestBehind_25 ?_
    refine z_mmin dX5_fewestBehind_26 lX5_51 (Nat.le_of_ble_eq_true rfl) (by omega) (by omega) ?_
    refine ab_istore_n (ls' := [(2, .int (iI (min a ((t p) + (t (r - p)))))), (0, .ref 170), (1, .int (iI (r : Int))), (3, .int (iI (p : Int)))]) dX5_fewestBehind_29 rfl (by decide) rfl ?_
    refine z_iinc (k := 3) (v := (p : Int) + 1) (ls' := [(3, .int (iI ((p : Int) + 1))), (2, .int (iI (min a ((t p) + (t (r - p)))))), (0, .ref 170), (1, .int (iI (r : Int)))]) dX5_fewestBehind_30 rfl rfl (by decide) rfl ?_
    refine ab_goto (tgt := 5) dX5_fewestBehind_33 (by decide) ?_
    refine ab_sub (ls' := [(0, .ref 170), (1, .int (iI (r : Int))), (2, .int (iI (min a ((t p) + (t (r - p)))))), (3, .int (iI ((p : Int) + 1)))]) (ks := [2, 3, 1, 0]) rfl ?_
    exact ih _ (by omega) (p + 1) _ h rfl rfl (by omega) (by rw [ha, nT_s])
theorem c_fewestBehind {d : Nat} {h : ab_H} {Q : ab_Q} {r : Nat} {t : Nat → Int} (hr : r ≤ 19) (hT : ∀ j, j ≤ r → zv h 172 j = t j) (hB : ∀ j, j ≤ r → 0 ≤ t j ∧ t j ≤ j) (K : Q (some (.int (iI (nT (fun p => t p + t (r - p)) 20 (r + 1))))) h) : ab_X (d + 1) mX5_fewestBehind 0 (lv_args 0 [.ref 170, .int (iI (r : Int))]) [] h Q := by
  show ab_X (d + 1) mX5_fewestBehind 0 [(0, .ref 170), (1, .int (iI (r : Int)))] [] h Q
  refine z_bipush dX5_fewestBehind_0 (by decide) ?_
  refine ab_istore_n (ls' := [(2, .int (iI 20)), (0, .ref 170), (1, .int (iI (r : Int)))]) dX5_fewestBehind_2 rfl (by decide) rfl ?_
  refine z_iconst dX5_fewestBehind_3 ?_
  refine ab_istore_n (ls' := [(3, .int (iI 0)), (2, .int (iI 20)), (0, .ref 170), (1, .int (iI (r : Int)))]) dX5_fewestBehind_4 rfl (by decide) rfl ?_
  refine ab_sub (ls' := [(0, .ref 170), (1, .int (iI (r : Int))), (2, .int (iI 20)), (3, .int (iI 0))]) (ks := [2, 3, 1, 0]) rfl ?_
  exact lp_fewestBehind hr hT hB K _ 0 20 h rfl rfl (by omega) rfl
theorem fNext_c {l n : Nat} (hl : 1 ≤ l) (hn : n ≤ 20) (h : ¬ n < l) : 1 + nT (fun p => fTb l n p + fTb l n (n - l - p)) 20 (n - l + 1) = fNext l n (fTb l n) := by
  unfold fNext
  rw [if_neg h, ← nT_shift]
  have b1 := fTb_b hl n 0 (by omega) (by omega)
  have b2 := fTb_b hl n (n - l) (by omega) (by omega)
  have e2 : ((n - l : Nat) : Int) = (n : Int) - l := by omega
  rw [nT_top (by rw [Nat.sub_zero]; omega) _ (by omega)]
  exact nT_congr (fun i _ => by omega)
theorem lp_fewestOf1 {d : Nat} {Q : ab_Q} {h0 : ab_H} {l : Nat} (hl : 1 ≤ l) (hl2 : l ≤ 9) (K : ∀ h', ftI h0 h' 172 l 21 → ab_X (d + 2) mX5_fewestOf 38 [(0, .ref 170), (1, .ref 167), (2, .int (iI (l : Int)))] [] h' Q) : ∀ (nn : Nat) (n : Nat) (h : ab_H), 21 - n = nn → (n ≤ 21) → (ftI h0 h 172 l n) → ab_X (d + 2) mX5_fewestOf 2 [(0, .ref 170), (1, .ref 167), (2, .int (iI (l : Int))), (3, .int (iI (n : Int)))] [] h Q := by
  intro nn
  induction nn using Nat.strongRecOn with
  | ind nn ih =>
  intro n h hnn h2 hI
  refine ab_iload_n (k := 3) dX5_fewestOf_2 rfl rfl ?_
  refine z_bipush dX5_fewestOf_3 (by decide) ?_
  refine z_icmp_gt (tgt := 38) dX5_fewestOf_5 (by decide) (by omega) (by decide) (fun c5 => ?_) (fun c5 => ?_)
  · skip
    refine ab_sub (ls' := [(0, .ref 170), (1, .ref 167), (2, .int (iI (l : Int)))]) (ks := [0, 1, 2]) rfl ?_
    have e : n = 21 := by omega
    subst e
    exact K h hI
  · skip
    refine ab_aload_n (k := 0) dX5_fewestOf_8 rfl rfl ?_
    refine z_getP (b := 172) dX5_fewestOf_9 fX5_15 rfl rfl rfl ?_
    refine ab_iload_n (k := 3) dX5_fewestOf_12 rfl rfl ?_
    refine ab_iload_n (k := 3) dX5_fewestOf_13 rfl rfl ?_
    refine ab_iload_n (k := 2) dX5_fewestOf_14 rfl rfl ?_
    refine z_icmp_ge (tgt := 22) dX5_fewestOf_15 (by decide) (by omega) (by omega) (fun c15 => ?_) (fun c15 => ?_)
    · skip
      refine z_iconst dX5_fewestOf_22 ?_
      refine ab_aload_n (k := 0) dX5_fewestOf_23 rfl rfl ?_
      refine ab_iload_n (k := 3) dX5_fewestOf_24 rfl rfl ?_
      refine ab_iload_n (k := 2) dX5_fewestOf_25 rfl rfl ?_
      refine z_isub dX5_fewestOf_26 ?_
      refine z_is (y := ((n - l : Nat) : Int)) (by omega) ?_
      refine ab_callV (As := [.int (iI ((n - l : Nat) : Int))]) (rest := [.int (iI 1), .int (iI (n : Int)), .ref 172]) dX5_fewestOf_27 lX5_48 rfl (Nat.le_of_ble_eq_true rfl) (Nat.le_of_ble_eq_true rfl) rfl ?_
      refine c_fewestBehind (r := n - l) (t := fTb l n) (by omega) (fun j hj => hI.2 j (by omega)) (fun j hj => fTb_b hl n j (by omega) (by omega)) ?_
      show ab_X (d + 2) mX5_fewestOf 30 [(0, .ref 170), (1, .ref 167), (2, .int (iI (l : Int))), (3, .int (iI (n : Int)))] [.int (iI (nT (fun p => fTb l n p + fTb l n (n - l - p)) 20 (n - l + 1))), .int (iI 1), .int (iI (n : Int)), .ref 172] h _
      refine z_iadd dX5_fewestOf_30 ?_
      refine z_is (y := fNext l n (fTb l n)) (fNext_c hl (by omega) (by omega)) ?_
      refine z_iast dX5_fewestOf_31 rfl (by omega) (by omega) ?_
      simp only [Int.toNat_natCast]
      refine z_iinc (k := 3) (v := (n : Int) + 1) (ls' := [(3, .int (iI ((n : Int) + 1))), (0, .ref 170), (1, .ref 167), (2, .int (iI (l : Int)))]) dX5_fewestOf_32 rfl rfl (by decide) rfl ?_
      refine ab_goto (tgt := 2) dX5_fewestOf_35 (by decide) ?_
      refine ab_sub (ls' := [(0, .ref 170), (1, .ref 167), (2, .int (iI (l : Int))), (3, .int (iI ((n : Int) + 1)))]) (ks := [1, 2, 3, 0]) rfl ?_
      first | exact ih _ (by omega) (n + 1) _ rfl (by omega) (ftI_step hI (sm_zp (by decide)) (fun j hj => zv_zp_ne (fun q => hj q.2)) (zv_zp_s (by have := fTb_b hl (n + 1) n (by omega) (by omega); rw [fTb_n] at this; omega))) | exact ih _ (by omega) (n + 1) _ rfl (by omega) (ftI_step hI (sm_zp (by decide)) (fun j hj => zv_zp_ne (fun q => hj q.2)) ((zv_zp_s (by decide)).trans (by unfold fNext; rw [if_pos (by omega)])))
    · skip
      refine z_iconst dX5_fewestOf_18 ?_
      refine ab_goto (tgt := 31) dX5_fewestOf_19 (by decide) ?_
      refine z_iast dX5_fewestOf_31 rfl (by omega) (by omega) ?_
      simp only [Int.toNat_natCast]
      refine z_iinc (k := 3) (v := (n : Int) + 1) (ls' := [(3, .int (iI ((n : Int) + 1))), (0, .ref 170), (1, .ref 167), (2, .int (iI (l : Int)))]) dX5_fewestOf_32 rfl rfl (by decide) rfl ?_
      refine ab_goto (tgt := 2) dX5_fewestOf_35 (by decide) ?_
      refine ab_sub (ls' := [(0, .ref 170), (1, .ref 167), (2, .int (iI (l : Int))), (3, .int (iI ((n : Int) + 1)))]) (ks := [1, 2, 3, 0]) rfl ?_
      first | exact ih _ (by omega) (n + 1) _ rfl (by omega) (ftI_step hI (sm_zp (by decide)) (fun j hj => zv_zp_ne (fun q => hj q.2)) (zv_zp_s (by have := fTb_b hl (n + 1) n (by omega) (by omega); rw [fTb_n] at this; omega))) | exact ih _ (by omega) (n + 1) _ rfl (by omega) (ftI_step hI (sm_zp (by decide)) (fun j hj => zv_zp_ne (fun q => hj q.2)) ((zv_zp_s (by decide)).trans (by unfold fNext; rw [if_pos (by omega)])))
theorem lp_fewestOf2 {d : Nat} {Q : ab_Q} {h0 : ab_H} {g l : Nat} {t : Nat → Int} (hg : gOK h0 g) (hT : ∀ j, j ≤ 20 → zv h0 172 j = t j) (K : Q (some (.int (iI (sT (fun i => t (zv h0 169 i).toNat) g)))) h0) : ∀ (nn : Nat) (i : Nat) (a : Int) (h : ab_H), g - i = nn → (h = h0) → (i ≤ g) → (a = sT (fun i => t (zv h0 169 i).toNat) i) → ab_X (d + 2) mX5_fewestOf 43 [(0, .ref 170), (1, .ref 167), (2, .int (iI (l : Int))), (3, .int (iI a)), (4, .int (iI (i : Int)))] [] h Q := by
  intro nn
  induction nn using Nat.strongRecOn with
  | ind nn ih =>
  intro i a h hnn hh h2 ha
  subst hh
  have hg1 := hg.1
  have hg2 := hg.2.1
  refine ab_iload (k := 4) dX5_fewestOf_43 rfl ?_
  refine ab_aload_n (k := 1) dX5_fewestOf_45 rfl rfl ?_
  refine z_getI dX5_fewestOf_46 fX5_38 rfl (Or.inl rfl) ?_
  refine z_is (y := (g : Int)) hg1 ?_
  refine z_icmp_ge (tgt := 72) dX5_fewestOf_49 (by decide) (by omega) (by omega) (fun c49 => ?_) (fun c49 => ?_)
  · skip
    refine ab_iload_n (k := 3) dX5_fewestOf_72 rfl rfl ?_
    refine z_iret dX5_fewestOf_73 rfl ?_
    have e : i = g := by omega
    subst e
    rw [ha]
    exact K
  · skip
    refine ab_iload_n (k := 3) dX5_fewestOf_52 rfl rfl ?_
    refine ab_aload_n (k := 0) dX5_fewestOf_53 rfl rfl ?_
    refine z_getP (b := 172) dX5_fewestOf_54 fX5_15 rfl rfl rfl ?_
    refine ab_aload_n (k := 1) dX5_fewestOf_57 rfl rfl ?_
    refine ab_iload (k := 4) dX5_fewestOf_58 rfl ?_
    refine ab_callV (As := [.int (iI (i : Int))]) (rest := [.ref 172, .int (iI a)]) dX5_fewestOf_60 lX5_44 rfl (Nat.le_of_ble_eq_true rfl) (Nat.le_of_ble_eq_true rfl) rfl ?_
    refine c_sizeOf (by omega) hg (fun _ => ?_) (fun q => absurd (show _ from ⟨by omega, by omega⟩) q)
    have hz := hg.2.2 i (by omega)
    show ab_X (d + 2) mX5_fewestOf 63 [(0, .ref 170), (1, .ref 167), (2, .int (iI (l : Int))), (3, .int (iI a)), (4, .int (iI (i : Int)))] [.int (iI (zv h 169 i)), .ref 172, .int (iI a)] h _
    refine z_iald dX5_fewestOf_63 rfl (by omega) (by omega) ?_
    refine z_is (y := t (zv h 169 i).toNat) (hT _ (by omega)) ?_
    refine z_iadd dX5_fewestOf_64 ?_
    refine ab_istore_n (ls' := [(3, .int (iI (a + (t (zv h 169 i).toNat)))), (0, .ref 170), (1, .ref 167), (2, .int (iI (l : Int))), (4, .int (iI (i : Int)))]) dX5_fewestOf_65 rfl (by decide) rfl ?_
    refine z_iinc (k := 4) (v := (i : Int) + 1) (ls' := [(4, .int (iI ((i : Int) + 1))), (3, .int (iI (a + (t (zv h 169 i).toNat)))), (0, .ref 170), (1, .ref 167), (2, .int (iI (l : Int)))]) dX5_fewestOf_66 rfl rfl (by decide) rfl ?_
    refine ab_goto (tgt := 43) dX5_fewestOf_69 (by decide) ?_
    refine ab_sub (ls' := [(0, .ref 170), (1, .ref 167), (2, .int (iI (l : Int))), (3, .int (iI (a + (t (zv h 169 i).toNat)))), (4, .int (iI ((i : Int) + 1)))]) (ks := [2, 3, 4, 1, 0]) rfl ?_
    exact ih _ (by omega) (i + 1) _ h rfl rfl (by omega) (by rw [ha, sT_s])
theorem gOK_sm {h h' : ab_H} {g : Nat} (hs : sm [172] h h') (hg : gOK h g) : gOK h' g := ⟨(hs.1 167 2 (by decide)).trans hg.1, hg.2.1, fun i hi => by rw [hs.1 169 i (by decide), hs.1 168 i (by decide)]; exact hg.2.2 i hi⟩
theorem c_fewestOf {d : Nat} {h : ab_H} {Q : ab_Q} {g l : Nat} (hg : gOK h g) (hl : 1 ≤ l) (hl2 : l ≤ 9) (K : ∀ h1, ftI h h1 172 l 21 → Q (some (.int (iI (sT (fun i => fTb l 21 (zv h1 169 i).toNat) g)))) h1) : ab_X (d + 2) mX5_fewestOf 0 (lv_args 0 [.ref 170, .ref 167, .int (iI (l : Int))]) [] h Q := by
  show ab_X (d + 2) mX5_fewestOf 0 [(0, .ref 170), (1, .ref 167), (2, .int (iI (l : Int)))] [] h Q
  refine z_iconst dX5_fewestOf_0 ?_
  refine ab_istore_n (ls' := [(3, .int (iI 0)), (0, .ref 170), (1, .ref 167), (2, .int (iI (l : Int)))]) dX5_fewestOf_1 rfl (by decide) rfl ?_
  refine ab_sub (ls' := [(0, .ref 170), (1, .ref 167), (2, .int (iI (l : Int))), (3, .int (iI 0))]) (ks := [1, 2, 3, 0]) rfl ?_
  refine lp_fewestOf1 hl hl2 (fun h1 hi1 => ?_) _ 0 h rfl (by omega) ⟨sm.refl, fun j hj => by omega⟩
  refine z_iconst dX5_fewestOf_38 ?_
  refine ab_istore_n (ls' := [(3, .int (iI 0)), (0, .ref 170), (1, .ref 167), (2, .int (iI (l : Int)))]) dX5_fewestOf_39 rfl (by decide) rfl ?_
  refine z_iconst dX5_fewestOf_40 ?_
  refine ab_istore (ls' := [(4, .int (iI 0)), (3, .int (iI 0)), (0, .ref 170), (1, .ref 167), (2, .int (iI (l : Int)))]) dX5_fewestOf_41 (by decide) rfl ?_
  refine ab_sub (ls' := [(0, .ref 170), (1, .ref 167), (2, .int (iI (l : Int))), (3, .int (iI 0)), (4, .int (iI 0))]) (ks := [2, 3, 4, 1, 0]) rfl ?_
  exact lp_fewestOf2 (t := fTb l 21) (gOK_sm hi1.1 hg) (fun j hj => hi1.2 j (by omega)) (K h1 hi1) _ 0 0 h1 rfl rfl (by omega) rfl
theorem lp_layFewest2 {d : Nat} {Q : ab_Q} {h0 : ab_H} {l n : Nat} {v : Int} {t : Nat → Int} (hl : 1 ≤ l) (hl2 : l ≤ 9) (hn : n ≤ 20) (hv : 0 ≤ v ∧ v ≤ 20) (hT : ∀ j, j < n → zv h0 221 j = t j) (hB : ∀ j, j < n → 0 ≤ t j ∧ t j ≤ j) (K : ∀ h', sm [221] h0 h' → (∀ j, j ≠ n → zv h' 221 j = zv h0 221 j) → zv h' 221 n = nT (fun p => 1 + t p + t (n - l - p)) v (n + 1 - l) → ab_X (d + 1) mX12_layFewest 74 [(0, .ref 200), (1, .int (iI (l : Int))), (2, .int (iI (n : Int)))] [] h' Q) : ∀ (nn : Nat) (p : Nat) (h : ab_H), n + 1 - l - p = nn → (p ≤ n + 1 - l) → (sm [221] h0 h ∧ (∀ j, j ≠ n → zv h 221 j = zv h0 221 j) ∧ zv h 221 n = nT (fun p => 1 + t p + t (n - l - p)) v p) → ab_X (d + 1) mX12_layFewest 27 [(0, .ref 200), (1, .int (iI (l : Int))), (2, .int (iI (n : Int))), (3, .int (iI (p : Int)))] [] h Q := by
  intro nn
  induction nn using Nat.strongRecOn with
  | ind nn ih =>
  intro p h hnn h2 hI
  have hab : 0 ≤ nT (fun p => 1 + t p + t (n - l - p)) v p ∧ nT (fun p => 1 + t p + t (n - l - p)) v p ≤ 20 := ⟨nT_lo p hv.1 (fun i hi => by have := hB i (by omega); have := hB (n - l - i) (by omega); omega), Int.le_trans (nT_hi p) hv.2⟩
  refine ab_iload_n (k := 3) dX12_layFewest_27 rfl rfl ?_
  refine ab_iload_n (k := 1) dX12_layFewest_28 rfl rfl ?_
  refine z_iadd dX12_layFewest_29 ?_
  refine ab_iload_n (k := 2) dX12_layFewest_30 rfl rfl ?_
  refine z_icmp_gt (tgt := 74) dX12_layFewest_31 (by decide) (by omega) (by omega) (fun c31 => ?_) (fun c31 => ?_)
  · skip
    refine ab_sub (ls' := [(0, .ref 200), (1, .int (iI (l : Int))), (2, .int (iI (n : Int)))]) (ks := [0, 1, 2]) rfl ?_
    have e : p = n + 1 - l := by omega
    subst e
    exact K h hI.1 hI.2.1 hI.2.2
  · skip
    have hp1 := hB p (by omega)
    have hp2 := hB (n - l - p) (by omega)
    refine ab_aload_n (k := 0) dX12_layFewest_34 rfl rfl ?_
    refine z_getP (b := 221) dX12_layFewest_35 fX12_90 rfl rfl rfl ?_
    refine ab_iload_n (k := 2) dX12_layFewest_38 rfl rfl ?_
    refine ab_aload_n (k := 0) dX12_layFewest_39 rfl rfl ?_
    refine z_getP (b := 221) dX12_layFewest_40 fX12_90 rfl rfl rfl ?_
    refine ab_iload_n (k := 2) dX12_layFewest_43 rfl rfl ?_
    refine z_iald dX12_layFewest_44 rfl (by omega) (by omega) ?_
    simp only [Int.toNat_natCast]
    refine z_is (y := nT (fun p => 1 + t p + t (n - l - p)) v p) hI.2.2 ?_
    refine z_iconst dX12_layFewest_45 ?_
    refine ab_aload_n (k := 0) dX12_layFewest_46 rfl rfl ?_
    refine z_getP (b := 221) dX12_layFewest_47 fX12_90 rfl rfl rfl ?_
    refine ab_iload_n (k := 3) dX12_layFewest_50 rfl rfl ?_
    refine z_iald dX12_layFewest_51 rfl (by omega) (by omega) ?_
    simp only [Int.toNat_natCast]
    refine z_is (y := t p) ((hI.2.1 p (by omega)).trans (hT p (by omega))) ?_
    refine z_iadd dX12_layFewest_52 ?_
    refine ab_aload_n (k := 0) dX12_layFewest_53 rfl rfl ?_
    refine z_getP (b := 221) dX12_layFewest_54 fX12_90 rfl rfl rfl ?_
    refine ab_iload_n (k := 2) dX12_layFewest_57 rfl rfl ?_
    refine ab_iload_n (k := 1) dX12_layFewest_58 rfl rfl ?_
    refine z_isub dX12_layFewest_59 ?_
    refine ab_iload_n (k := 3) dX12_layFewest_60 rfl rfl ?_
    refine z_isub dX12_layFewest_61 ?_
    refine z_is (y := ((n - l - p : Nat) : Int)) (by omega) ?_
    refine z_iald dX12_layFewest_62 rfl (by omega) (by omega) ?_
    simp only [Int.toNat_natCast]
    refine z_is (y := t (n - l - p)) ((hI.2.1 _ (by omega)).trans (hT (n - l - p) (by omega))) ?_
    refine z_iadd dX12_layFewest_63 ?_
    refine z_mmin dX12_layFewest_64 lX12_327 (Nat.le_of_ble_eq_true rfl) (by omega) (by omega) ?_
    refine z_iast dX12_layFewest_67 rfl (by omega) (by omega) ?_
    simp only [Int.toNat_natCast]
    refine z_iinc (k := 3) (v := (p : Int) + 1) (ls' := [(3, .int (iI ((p : Int) + 1))), (0, .ref 200), (1, .int (iI (l : Int))), (2, .int (iI (n : Int)))]) dX12_layFewest_68 rfl rfl (by decide) rfl ?_
    refine ab_goto (tgt := 27) dX12_layFewest_71 (by decide) ?_
    refine ab_sub (ls' := [(0, .ref 200), (1, .int (iI (l : Int))), (2, .int (iI (n : Int))), (3, .int (iI ((p : Int) + 1)))]) (ks := [1, 2, 3, 0]) rfl ?_
    exact ih _ (by omega) (p + 1) _ rfl (by omega) ⟨hI.1.trans (sm_zp (by decide)), fun j hj => (zv_zp_ne (fun q => hj q.2)).trans (hI.2.1 j hj), (zv_zp_s (by omega)).trans (by rw [nT_s])⟩
theorem lp_layFewest {d : Nat} {Q : ab_Q} {h0 : ab_H} {l : Nat} (hl : 1 ≤ l) (hl2 : l ≤ 9) (K : ∀ h', ftI h0 h' 221 l 21 → Q none h') : ∀ (nn : Nat) (n : Nat) (h : ab_H), 21 - n = nn → (n ≤ 21) → (ftI h0 h 221 l n) → ab_X (d + 1) mX12_layFewest 2 [(0, .ref 200), (1, .int (iI (l : Int))), (2, .int (iI (n : Int)))] [] h Q := by
  intro nn
  induction nn using Nat.strongRecOn with
  | ind nn ih =>
  intro n h hnn h2 hI
  refine ab_iload_n (k := 2) dX12_layFewest_2 rfl rfl ?_
  refine z_bipush dX12_layFewest_3 (by decide) ?_
  refine z_icmp_gt (tgt := 80) dX12_layFewest_5 (by decide) (by omega) (by decide) (fun c5 => ?_) (fun c5 => ?_)
  · skip
    refine z_vret dX12_layFewest_80 rfl ?_
    have e : n = 21 := by omega
    subst e
    exact K h hI
  · skip
    refine ab_aload_n (k := 0) dX12_layFewest_8 rfl rfl ?_
    refine z_getP (b := 221) dX12_layFewest_9 fX12_90 rfl rfl rfl ?_
    refine ab_iload_n (k := 2) dX12_layFewest_12 rfl rfl ?_
    refine ab_iload_n (k := 2) dX12_layFewest_13 rfl rfl ?_
    refine ab_iload_n (k := 1) dX12_layFewest_14 rfl rfl ?_
    refine z_icmp_ge (tgt := 22) dX12_layFewest_15 (by decide) (by omega) (by omega) (fun c15 => ?_) (fun c15 => ?_)
    · skip
      refine z_bipush dX12_layFewest_22 (by decide) ?_
      refine z_iast dX12_layFewest_24 rfl (by omega) (by omega) ?_
      simp only [Int.toNat_natCast]
      refine z_iconst dX12_layFewest_25 ?_
      refine ab_istore_n (ls' := [(3, .int (iI 0)), (0, .ref 200), (1, .int (iI (l : Int))), (2, .int (iI (n : Int)))]) dX12_layFewest_26 rfl (by decide) rfl ?_
      refine ab_sub (ls' := [(0, .ref 200), (1, .int (iI (l : Int))), (2, .int (iI (n : Int))), (3, .int (iI 0))]) (ks := [1, 2, 3, 0]) rfl ?_
      refine lp_layFewest2 (h0 := _) (t := fTb l n) (v := _) hl hl2 (by omega) (by decide) (fun j hj => (zv_zp_ne (by omega)).trans (hI.2 j hj)) (fun j hj => fTb_b hl n j (by omega) hj) (fun h2 s2 o2 x2 => ?_) _ 0 _ rfl (by omega) ⟨sm.refl, fun j hj => rfl, zv_zp_s (by decide)⟩
      refine z_iinc (k := 2) (v := (n : Int) + 1) (ls' := [(2, .int (iI ((n : Int) + 1))), (0, .ref 200), (1, .int (iI (l : Int)))]) dX12_layFewest_74 rfl rfl (by decide) rfl ?_
      refine ab_goto (tgt := 2) dX12_layFewest_77 (by decide) ?_
      refine ab_sub (ls' := [(0, .ref 200), (1, .int (iI (l : Int))), (2, .int (iI ((n : Int) + 1)))]) (ks := [1, 2, 0]) rfl ?_
      exact ih _ (by omega) (n + 1) _ rfl (by omega) (ftI_step hI ((sm_zp (by decide)).trans s2) (fun j hj => (o2 j hj).trans (zv_zp_ne (fun q => hj q.2))) (by rw [x2]; unfold fNext; first | (rw [if_neg (by omega), show n + 1 - l = n - l + 1 by omega]) | (rw [if_pos (by omega), show n + 1 - l = 0 by omega]; rfl)))
    · skip
      refine z_iconst dX12_layFewest_18 ?_
      refine ab_goto (tgt := 24) dX12_layFewest_19 (by decide) ?_
      refine z_iast dX12_layFewest_24 rfl (by omega) (by omega) ?_
      simp only [Int.toNat_natCast]
      refine z_iconst dX12_layFewest_25 ?_
      refine ab_istore_n (ls' := [(3, .int (iI 0)), (0, .ref 200), (1, .int (iI (l : Int))), (2, .int (iI (n : Int)))]) dX12_layFewest_26 rfl (by decide) rfl ?_
      refine ab_sub (ls' := [(0, .ref 200), (1, .int (iI (l : Int))), (2, .int (iI (n : Int))), (3, .int (iI 0))]) (ks := [1, 2, 3, 0]) rfl ?_
      refine lp_layFewest2 (h0 := _) (t := fTb l n) (v := _) hl hl2 (by omega) (by decide) (fun j hj => (zv_zp_ne (by omega)).trans (hI.2 j hj)) (fun j hj => fTb_b hl n j (by omega) hj) (fun h2 s2 o2 x2 => ?_) _ 0 _ rfl (by omega) ⟨sm.refl, fun j hj => rfl, zv_zp_s (by decide)⟩
      refine z_iinc (k := 2) (v := (n : Int) + 1) (ls' := [(2, .int (iI ((n : Int) + 1))), (0, .ref 200), (1, .int (iI (l : Int)))]) dX12_layFewest_74 rfl rfl (by decide) rfl ?_
      refine ab_goto (tgt := 2) dX12_layFewest_77 (by decide) ?_
      refine ab_sub (ls' := [(0, .ref 200), (1, .int (iI (l : Int))), (2, .int (iI ((n : Int) + 1)))]) (ks := [1, 2, 0]) rfl ?_
      exact ih _ (by omega) (n + 1) _ rfl (by omega) (ftI_step hI ((sm_zp (by decide)).trans s2) (fun j hj => (o2 j hj).trans (zv_zp_ne (fun q => hj q.2))) (by rw [x2]; unfold fNext; first | (rw [if_neg (by omega), show n + 1 - l = n - l + 1 by omega]) | (rw [if_pos (by omega), show n + 1 - l = 0 by omega]; rfl)))
theorem c_layFewest {d : Nat} {h : ab_H} {Q : ab_Q} {l : Nat} (hl : 1 ≤ l) (hl2 : l ≤ 9) (K : ∀ h', ftI h h' 221 l 21 → Q none h') : ab_X (d + 1) mX12_layFewest 0 (lv_args 0 [.ref 200, .int (iI (l : Int))]) [] h Q := by
  show ab_X (d + 1) mX12_layFewest 0 [(0, .ref 200), (1, .int (iI (l : Int)))] [] h Q
  refine z_iconst dX12_layFewest_0 ?_
  refine ab_istore_n (ls' := [(2, .int (iI 0)), (0, .ref 200), (1, .int (iI (l : Int)))]) dX12_layFewest_1 rfl (by decide) rfl ?_
  refine ab_sub (ls' := [(0, .ref 200), (1, .int (iI (l : Int))), (2, .int (iI 0))]) (ks := [1, 2, 0]) rfl ?_
  exact lp_layFewest hl hl2 K _ 0 h rfl (by omega) ⟨sm.refl, fun j hj => by omega⟩
