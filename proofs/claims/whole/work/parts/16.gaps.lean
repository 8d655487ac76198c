/-! CONTRACTS OF THE CLASS: gaps, the plan's sums and changes -/
def sT (f : Nat → Int) : Nat → Int
  | 0 => 0
  | n + 1 => sT f n + f n
def mT (f : Nat → Int) (a : Int) : Nat → Int
  | 0 => a
  | n + 1 => max (mT f a n) (f n)
def nT (f : Nat → Int) (a : Int) : Nat → Int
  | 0 => a
  | n + 1 => min (nT f a n) (f n)
theorem sT_s (f : Nat → Int) (n : Nat) : sT f (n + 1) = sT f n + f n := rfl
theorem mT_s (f : Nat → Int) (a : Int) (n : Nat) : mT f a (n + 1) = max (mT f a n) (f n) := rfl
theorem nT_s (f : Nat → Int) (a : Int) (n : Nat) : nT f a (n + 1) = min (nT f a n) (f n) := rfl
theorem sT_b {f : Nat → Int} {b : Int} : ∀ {n : Nat}, (∀ i, i < n → 0 ≤ f i ∧ f i ≤ b) → 0 ≤ sT f n ∧ sT f n ≤ b * n
  | 0, _ => by simp [sT]
  | n + 1, h => by
    have h1 := sT_b (n := n) (fun i hi => h i (by omega))
    have h2 := h n (by omega)
    rw [sT_s]
    refine ⟨by omega, ?_⟩
    have : b * ((n + 1 : Nat) : Int) = b * n + b := by rw [Int.natCast_succ, Int.mul_add, Int.mul_one]
    omega
theorem mT_b {f : Nat → Int} {a b : Int} : ∀ {n : Nat}, 0 ≤ a ∧ a ≤ b → (∀ i, i < n → 0 ≤ f i ∧ f i ≤ b) → 0 ≤ mT f a n ∧ mT f a n ≤ b
  | 0, ha, _ => ha
  | n + 1, ha, h => by
    have h1 := mT_b (n := n) ha (fun i hi => h i (by omega))
    have h2 := h n (by omega)
    rw [mT_s]; omega
theorem nT_b {f : Nat → Int} {a b : Int} : ∀ {n : Nat}, 0 ≤ a ∧ a ≤ b → (∀ i, i < n → 0 ≤ f i ∧ f i ≤ b) → 0 ≤ nT f a n ∧ nT f a n ≤ b
  | 0, ha, _ => ha
  | n + 1, ha, h => by
    have h1 := nT_b (n := n) ha (fun i hi => h i (by omega))
    have h2 := h n (by omega)
    rw [nT_s]; omega
def pIn (y l : Int) : Int := if y < l then 0 else y - l + 1
theorem pIn_b {y l : Int} (h : 0 ≤ y ∧ y ≤ 20) (hl : 1 ≤ l) : 0 ≤ pIn y l ∧ pIn y l ≤ 20 := by unfold pIn; split <;> omega
/-- the gaps as they lie: g of them, sizes within -/
def gOK (h : ab_H) (g : Nat) : Prop := zv h 167 2 = g ∧ g ≤ 20 ∧ ∀ i, i < g → (0 ≤ zv h 169 i ∧ zv h 169 i ≤ 20) ∧ (0 ≤ zv h 168 i ∧ zv h 168 i ≤ 20)
theorem c_placesIn {d : Nat} {h : ab_H} {Q : ab_Q} {y l : Int} (hy : inR y) (hl : inR l) (K : Q (some (.int (iI (pIn y l)))) h) : ab_X d mX2_placesIn 0 (lv_args 0 [.int (iI y), .int (iI l)]) [] h Q := by
  show ab_X d mX2_placesIn 0 [(0, .int (iI y)), (1, .int (iI l))] [] h Q
  refine ab_iload_n (k := 0) dX2_placesIn_0 rfl rfl ?_
  refine ab_iload_n (k := 1) dX2_placesIn_1 rfl rfl ?_
  refine z_icmp_ge (tgt := 9) dX2_placesIn_2 (by decide) (by omega) (by omega) (fun c2 => ?_) (fun c2 => ?_)
  · skip
    refine ab_iload_n (k := 0) dX2_placesIn_9 rfl rfl ?_
    refine ab_iload_n (k := 1) dX2_placesIn_10 rfl rfl ?_
    refine z_isub dX2_placesIn_11 ?_
    refine z_iconst dX2_placesIn_12 ?_
    refine z_iadd dX2_placesIn_13 ?_
    refine z_iret dX2_placesIn_14 rfl ?_
    have e : pIn y l = (y - l) + 1 := by unfold pIn; rw [if_neg (by omega)]
    rw [e] at K
    exact K
  · skip
    refine z_iconst dX2_placesIn_5 ?_
    refine ab_goto (tgt := 14) dX2_placesIn_6 (by decide) ?_
    refine z_iret dX2_placesIn_14 rfl ?_
    have e : pIn y l = 0 := by unfold pIn; rw [if_pos (by omega)]
    rw [e] at K
    exact K
theorem c_startOf {d : Nat} {h : ab_H} {Q : ab_Q} {i : Int} {g : Nat} (hi : inR i) (hg : gOK h g) (k1 : 0 ≤ i ∧ i < g → Q (some (.int (iI (zv h 168 i.toNat)))) h) (k0 : ¬ (0 ≤ i ∧ i < g) → Q (some (.int (iI 0))) h) : ab_X d mX2_startOf 0 (lv_args 0 [.ref 167, .int (iI i)]) [] h Q := by
  show ab_X d mX2_startOf 0 [(0, .ref 167), (1, .int (iI i))] [] h Q
  have hg1 := hg.1
  have hg2 := hg.2.1
  refine ab_iload_n (k := 1) dX2_startOf_0 rfl rfl ?_
  refine z_if_lt (tgt := 21) dX2_startOf_1 (by decide) (by omega) (fun c1 => ?_) (fun c1 => ?_)
  · skip
    refine z_iconst dX2_startOf_21 ?_
    refine z_iret dX2_startOf_22 rfl ?_
    exact k0 (by omega)
  · skip
    refine ab_iload_n (k := 1) dX2_startOf_4 rfl rfl ?_
    refine ab_aload_n (k := 0) dX2_startOf_5 rfl rfl ?_
    refine z_getI dX2_startOf_6 fX2_18 rfl (Or.inl rfl) ?_
    have b1 := zv_R h 167 2
    refine z_icmp_ge (tgt := 21) dX2_startOf_9 (by decide) (by omega) (by omega) (fun c9 => ?_) (fun c9 => ?_)
    · skip
      refine z_iconst dX2_startOf_21 ?_
      refine z_iret dX2_startOf_22 rfl ?_
      exact k0 (by omega)
    · skip
      refine ab_aload_n (k := 0) dX2_startOf_12 rfl rfl ?_
      refine z_getP (b := 168) dX2_startOf_13 fX2_9 rfl rfl rfl ?_
      refine ab_iload_n (k := 1) dX2_startOf_16 rfl rfl ?_
      refine z_iald dX2_startOf_17 rfl (by omega) (by omega) ?_
      have b2 := zv_R h 168 i.toNat
      refine ab_goto (tgt := 22) dX2_startOf_18 (by decide) ?_
      refine z_iret dX2_startOf_22 rfl ?_
      exact k1 (by omega)
theorem c_sizeOf {d : Nat} {h : ab_H} {Q : ab_Q} {i : Int} {g : Nat} (hi : inR i) (hg : gOK h g) (k1 : 0 ≤ i ∧ i < g → Q (some (.int (iI (zv h 169 i.toNat)))) h) (k0 : ¬ (0 ≤ i ∧ i < g) → Q (some (.int (iI 0))) h) : ab_X d mX2_sizeOf 0 (lv_args 0 [.ref 167, .int (iI i)]) [] h Q := by
  show ab_X d mX2_sizeOf 0 [(0, .ref 167), (1, .int (iI i))] [] h Q
  have hg1 := hg.1
  have hg2 := hg.2.1
  refine ab_iload_n (k := 1) dX2_sizeOf_0 rfl rfl ?_
  refine z_if_lt (tgt := 21) dX2_sizeOf_1 (by decide) (by omega) (fun c1 => ?_) (fun c1 => ?_)
  · skip
    refine z_iconst dX2_sizeOf_21 ?_
    refine z_iret dX2_sizeOf_22 rfl ?_
    exact k0 (by omega)
  · skip
    refine ab_iload_n (k := 1) dX2_sizeOf_4 rfl rfl ?_
    refine ab_aload_n (k := 0) dX2_sizeOf_5 rfl rfl ?_
    refine z_getI dX2_sizeOf_6 fX2_18 rfl (Or.inl rfl) ?_
    have b1 := zv_R h 167 2
    refine z_icmp_ge (tgt := 21) dX2_sizeOf_9 (by decide) (by omega) (by omega) (fun c9 => ?_) (fun c9 => ?_)
    · skip
      refine z_iconst dX2_sizeOf_21 ?_
      refine z_iret dX2_sizeOf_22 rfl ?_
      exact k0 (by omega)
    · skip
      refine ab_aload_n (k := 0) dX2_sizeOf_12 rfl rfl ?_
      refine z_getP (b := 169) dX2_sizeOf_13 fX2_15 rfl rfl rfl ?_
      refine ab_iload_n (k := 1) dX2_sizeOf_16 rfl rfl ?_
      refine z_iald dX2_sizeOf_17 rfl (by omega) (by omega) ?_
      have b2 := zv_R h 169 i.toNat
      refine ab_goto (tgt := 22) dX2_sizeOf_18 (by decide) ?_
      refine z_iret dX2_sizeOf_22 rfl ?_
      exact k1 (by omega)
theorem lp_placesFor {d : Nat} {Q : ab_Q} {h0 : ab_H} {g : Nat} {l : Int} (hg : gOK h0 g) (hl : 1 ≤ l ∧ l ≤ 100) (K : Q (some (.int (iI (sT (fun i => pIn (zv h0 169 i) l) g)))) h0) : ∀ (nn : Nat) (i : Nat) (a : Int) (h : ab_H), g - i = nn → (h = h0) → (i ≤ g) → (a = sT (fun i => pIn (zv h0 169 i) l) i) → ab_X (d + 1) mX2_placesFor 4 [(0, .ref 167), (1, .int (iI l)), (2, .int (iI a)), (3, .int (iI (i : Int)))] [] h Q := by
  intro nn
  induction nn using Nat.strongRecOn with
  | ind nn ih =>
  intro i a h hnn hh h2 ha
  subst hh
  have hg1 := hg.1
  have hg2 := hg.2.1
  refine ab_iload_n (k := 3) dX2_placesFor_4 rfl rfl ?_
  refine ab_aload_n (k := 0) dX2_placesFor_5 rfl rfl ?_
  refine z_getI dX2_placesFor_6 fX2_18 rfl (Or.inl rfl) ?_
  refine z_is (y := (g : Int)) hg1 ?_
  refine z_icmp_ge (tgt := 31) dX2_placesFor_9 (by decide) (by omega) (by omega) (fun c9 => ?_) (fun c9 => ?_)
  · skip
    refine ab_iload_n (k := 2) dX2_placesFor_31 rfl rfl ?_
    refine z_iret dX2_placesFor_32 rfl ?_
    have e : i = g := by omega
    subst e
    rw [ha]
    exact K
  · skip
    have hz := hg.2.2 i (by omega)
    refine ab_iload_n (k := 2) dX2_placesFor_12 rfl rfl ?_
    refine ab_aload_n (k := 0) dX2_placesFor_13 rfl rfl ?_
    refine z_getP (b := 169) dX2_placesFor_14 fX2_15 rfl rfl rfl ?_
    refine ab_iload_n (k := 3) dX2_placesFor_17 rfl rfl ?_
    refine z_iald dX2_placesFor_18 rfl (by omega) (by omega) ?_
    simp only [Int.toNat_natCast]
    have b1 := zv_R h 169 i
    refine ab_iload_n (k := 1) dX2_placesFor_19 rfl rfl ?_
    refine ab_callS (As := [.int (iI (zv h 169 i)), .int (iI l)]) (rest := [.int (iI a)]) dX2_placesFor_20 lX2_37 (Nat.le_of_ble_eq_true rfl) (Nat.le_of_ble_eq_true rfl) rfl ?_
    refine c_placesIn (by omega) (by omega) ?_
    show ab_X (d + 1) mX2_placesFor 23 [(0, .ref 167), (1, .int (iI l)), (2, .int (iI a)), (3, .int (iI (i : Int)))] [.int (iI (pIn (zv h 169 i) l)), .int (iI a)] h _
    refine z_iadd dX2_placesFor_23 ?_
    refine ab_istore_n (ls' := [(2, .int (iI (a + (pIn (zv h 169 i) l)))), (0, .ref 167), (1, .int (iI l)), (3, .int (iI (i : Int)))]) dX2_placesFor_24 rfl (by decide) rfl ?_
    refine z_iinc (k := 3) (v := (i : Int) + 1) (ls' := [(3, .int (iI ((i : Int) + 1))), (2, .int (iI (a + (pIn (zv h 169 i) l)))), (0, .ref 167), (1, .int (iI l))]) dX2_placesFor_25 rfl rfl (by decide) rfl ?_
    refine ab_goto (tgt := 4) dX2_placesFor_28 (by decide) ?_
    refine ab_sub (ls' := [(0, .ref 167), (1, .int (iI l)), (2, .int (iI (a + (pIn (zv h 169 i) l)))), (3, .int (iI ((i : Int) + 1)))]) (ks := [2, 3, 1, 0]) rfl ?_
    exact ih _ (by omega) (i + 1) _ _ rfl rfl (by omega) (by rw [ha, sT_s])
theorem c_placesFor {d : Nat} {h : ab_H} {Q : ab_Q} {g : Nat} {l : Int} (hg : gOK h g) (hl : 1 ≤ l ∧ l ≤ 100) (K : Q (some (.int (iI (sT (fun i => pIn (zv h 169 i) l) g)))) h) : ab_X (d + 1) mX2_placesFor 0 (lv_args 0 [.ref 167, .int (iI l)]) [] h Q := by
  show ab_X (d + 1) mX2_placesFor 0 [(0, .ref 167), (1, .int (iI l))] [] h Q
  refine z_iconst dX2_placesFor_0 ?_
  refine ab_istore_n (ls' := [(2, .int (iI 0)), (0, .ref 167), (1, .int (iI l))]) dX2_placesFor_1 rfl (by decide) rfl ?_
  refine z_iconst dX2_placesFor_2 ?_
  refine ab_istore_n (ls' := [(3, .int (iI 0)), (2, .int (iI 0)), (0, .ref 167), (1, .int (iI l))]) dX2_placesFor_3 rfl (by decide) rfl ?_
  refine ab_sub (ls' := [(0, .ref 167), (1, .int (iI l)), (2, .int (iI 0)), (3, .int (iI 0))]) (ks := [2, 3, 1, 0]) rfl ?_
  exact lp_placesFor hg hl K _ 0 0 h rfl rfl (by omega) rfl
theorem lp_placeFor {d : Nat} {Q : ab_Q} {h0 : ab_H} {g : Nat} {l m : Int} (hg : gOK h0 g) (hl : 1 ≤ l ∧ l ≤ 100) (hm : inR m ∧ 0 ≤ m) (K1 : ∀ i : Nat, i < g → m - sT (fun i => pIn (zv h0 169 i) l) i < pIn (zv h0 169 i) l → 0 ≤ m - sT (fun i => pIn (zv h0 169 i) l) i → Q (some (.int (iI (zv h0 168 i + (m - sT (fun i => pIn (zv h0 169 i) l) i))))) h0) (K0 : sT (fun i => pIn (zv h0 169 i) l) g ≤ m → Q (some (.int (iI (-1)))) h0) : ∀ (nn : Nat) (i : Nat) (a : Int) (h : ab_H), g - i = nn → (h = h0) → (i ≤ g) → (a = m - sT (fun i => pIn (zv h0 169 i) l) i) → (0 ≤ a ∧ a ≤ m) → ab_X (d + 1) mX2_placeFor 5 [(0, .ref 167), (1, .int (iI l)), (3, .int (iI a)), (4, .int (iI (i : Int)))] [] h Q := by
  intro nn
  induction nn using Nat.strongRecOn with
  | ind nn ih =>
  intro i a h hnn hh h2 ha hp
  subst hh
  have hg1 := hg.1
  have hg2 := hg.2.1
  refine ab_iload (k := 3) dX2_placeFor_5 rfl ?_
  refine ab_aload_n (k := 0) dX2_placeFor_7 rfl rfl ?_
  refine z_getI dX2_placeFor_8 fX2_18 rfl (Or.inl rfl) ?_
  refine z_is (y := (g : Int)) hg1 ?_
  refine z_icmp_ge (tgt := 54) dX2_placeFor_11 (by decide) (by omega) (by omega) (fun c11 => ?_) (fun c11 => ?_)
  · skip
    refine z_iconst dX2_placeFor_54 ?_
    refine z_iret dX2_placeFor_55 rfl ?_
    have e : i = g := by omega
    subst e
    exact K0 (by omega)
  · skip
    have hz := hg.2.2 i (by omega)
    refine ab_aload_n (k := 0) dX2_placeFor_14 rfl rfl ?_
    refine z_getP (b := 169) dX2_placeFor_15 fX2_15 rfl rfl rfl ?_
    refine ab_iload (k := 3) dX2_placeFor_18 rfl ?_
    refine z_iald dX2_placeFor_20 rfl (by omega) (by omega) ?_
    simp only [Int.toNat_natCast]
    have b1 := zv_R h 169 i
    refine ab_iload_n (k := 1) dX2_placeFor_21 rfl rfl ?_
    refine ab_callS (As := [.int (iI (zv h 169 i)), .int (iI l)]) (rest := []) dX2_placeFor_22 lX2_37 (Nat.le_of_ble_eq_true rfl) (Nat.le_of_ble_eq_true rfl) rfl ?_
    refine c_placesIn (by omega) (by omega) ?_
    show ab_X (d + 1) mX2_placeFor 25 [(0, .ref 167), (1, .int (iI l)), (3, .int (iI a)), (4, .int (iI (i : Int)))] [.int (iI (pIn (zv h 169 i) l))] h _
    refine ab_istore (ls' := [(5, .int (iI (pIn (zv h 169 i) l))), (0, .ref 167), (1, .int (iI l)), (3, .int (iI a)), (4, .int (iI (i : Int)))]) dX2_placeFor_25 (by decide) rfl ?_
    have hq := pIn_b hz.1 hl.1
    refine ab_iload_n (k := 3) dX2_placeFor_27 rfl rfl ?_
    refine ab_iload (k := 0) dX2_placeFor_28 rfl ?_
    refine z_icmp_ge (tgt := 43) dX2_placeFor_30 (by decide) (by omega) (by omega) (fun c30 => ?_) (fun c30 => ?_)
    · skip
      refine ab_iload_n (k := 3) dX2_placeFor_43 rfl rfl ?_
      refine ab_iload (k := 0) dX2_placeFor_44 rfl ?_
      refine z_isub dX2_placeFor_46 ?_
      refine ab_istore_n (ls' := [(3, .int (iI (a - (pIn (zv h 169 i) l)))), (5, .int (iI (pIn (zv h 169 i) l))), (0, .ref 167), (1, .int (iI l)), (4, .int (iI (i : Int)))]) dX2_placeFor_47 rfl (by decide) rfl ?_
      refine z_iinc (k := 4) (v := (i : Int) + 1) (ls' := [(4, .int (iI ((i : Int) + 1))), (3, .int (iI (a - (pIn (zv h 169 i) l)))), (5, .int (iI (pIn (zv h 169 i) l))), (0, .ref 167), (1, .int (iI l))]) dX2_placeFor_48 rfl rfl (by decide) rfl ?_
      refine ab_goto (tgt := 5) dX2_placeFor_51 (by decide) ?_
      refine ab_sub (ls' := [(0, .ref 167), (1, .int (iI l)), (3, .int (iI (a - (pIn (zv h 169 i) l)))), (4, .int (iI ((i : Int) + 1)))]) (ks := [3, 4, 1, 0]) rfl ?_
      exact ih _ (by omega) (i + 1) _ _ rfl rfl (by omega) (by rw [ha, sT_s]; omega) (by omega)
    · skip
      refine ab_aload_n (k := 1) dX2_placeFor_33 rfl rfl ?_
      refine z_getP (b := 168) dX2_placeFor_34 fX2_9 rfl rfl rfl ?_
      refine ab_iload (k := 4) dX2_placeFor_37 rfl ?_
      refine z_iald dX2_placeFor_39 rfl (by omega) (by omega) ?_
      simp only [Int.toNat_natCast]
      have b2 := zv_R h 168 i
      refine ab_iload_n (k := 3) dX2_placeFor_40 rfl rfl ?_
      refine z_iadd dX2_placeFor_41 ?_
      refine z_iret dX2_placeFor_42 rfl ?_
      rw [ha]
      exact K1 i (by omega) (by omega) (by omega)
theorem c_placeFor {d : Nat} {h : ab_H} {Q : ab_Q} {g : Nat} {l m : Int} (hg : gOK h g) (hl : 1 ≤ l ∧ l ≤ 100) (hm : inR m ∧ 0 ≤ m) (K1 : ∀ i : Nat, i < g → m - sT (fun i => pIn (zv h 169 i) l) i < pIn (zv h 169 i) l → 0 ≤ m - sT (fun i => pIn (zv h 169 i) l) i → Q (some (.int (iI (zv h 168 i + (m - sT (fun i => pIn (zv h 169 i) l) i))))) h) (K0 : sT (fun i => pIn (zv h 169 i) l) g ≤ m → Q (some (.int (iI (-1)))) h) : ab_X (d + 1) mX2_placeFor 0 (lv_args 0 [.ref 167, .int (iI l), .int (iI m)]) [] h Q := by
  show ab_X (d + 1) mX2_placeFor 0 [(0, .ref 167), (1, .int (iI l)), (2, .int (iI m))] [] h Q
  refine ab_iload_n (k := 2) dX2_placeFor_0 rfl rfl ?_
  refine ab_istore_n (ls' := [(3, .int (iI m)), (0, .ref 167), (1, .int (iI l)), (2, .int (iI m))]) dX2_placeFor_1 rfl (by decide) rfl ?_
  refine z_iconst dX2_placeFor_2 ?_
  refine ab_istore (ls' := [(4, .int (iI 0)), (3, .int (iI m)), (0, .ref 167), (1, .int (iI l)), (2, .int (iI m))]) dX2_placeFor_3 (by decide) rfl ?_
  refine ab_sub (ls' := [(0, .ref 167), (1, .int (iI l)), (3, .int (iI m)), (4, .int (iI 0))]) (ks := [2, 3, 1, 0]) rfl ?_
  exact lp_placeFor hg hl hm K1 K0 _ 0 m h rfl rfl (by omega) (by simp [sT]) (by omega)
theorem lp_mostOf {d : Nat} {Q : ab_Q} {h0 : ab_H} {g : Nat} {l : Int} (hg : gOK h0 g) (hl : 1 ≤ l ∧ l ≤ 100) (K : Q (some (.int (iI (sT (fun i => Int.tdiv (zv h0 169 i) l) g)))) h0) : ∀ (nn : Nat) (i : Nat) (a : Int) (h : ab_H), g - i = nn → (h = h0) → (i ≤ g) → (a = sT (fun i => Int.tdiv (zv h0 169 i) l) i) → ab_X d mX2_mostOf 4 [(0, .ref 167), (1, .int (iI l)), (2, .int (iI a)), (3, .int (iI (i : Int)))] [] h Q := by
  intro nn
  induction nn using Nat.strongRecOn with
  | ind nn ih =>
  intro i a h hnn hh h2 ha
  subst hh
  have hg1 := hg.1
  have hg2 := hg.2.1
  refine ab_iload_n (k := 3) dX2_mostOf_4 rfl rfl ?_
  refine ab_aload_n (k := 0) dX2_mostOf_5 rfl rfl ?_
  refine z_getI dX2_mostOf_6 fX2_18 rfl (Or.inl rfl) ?_
  refine z_is (y := (g : Int)) hg1 ?_
  refine z_icmp_ge (tgt := 33) dX2_mostOf_9 (by decide) (by omega) (by omega) (fun c9 => ?_) (fun c9 => ?_)
  · skip
    refine ab_iload_n (k := 2) dX2_mostOf_33 rfl rfl ?_
    refine z_iret dX2_mostOf_34 rfl ?_
    have e : i = g := by omega
    subst e
    rw [ha]
    exact K
  · skip
    have hz := hg.2.2 i (by omega)
    refine ab_iload_n (k := 1) dX2_mostOf_12 rfl rfl ?_
    refine z_if_le (tgt := 33) dX2_mostOf_13 (by decide) (by omega) (fun c13 => ?_) (fun c13 => ?_)
    · skip
      refine ab_iload_n (k := 2) dX2_mostOf_33 rfl rfl ?_
      refine z_iret dX2_mostOf_34 rfl ?_
      exact absurd c13 (by omega)
    · skip
      refine ab_iload_n (k := 2) dX2_mostOf_16 rfl rfl ?_
      refine ab_aload_n (k := 0) dX2_mostOf_17 rfl rfl ?_
      refine z_getP (b := 169) dX2_mostOf_18 fX2_15 rfl rfl rfl ?_
      refine ab_iload_n (k := 3) dX2_mostOf_21 rfl rfl ?_
      refine z_iald dX2_mostOf_22 rfl (by omega) (by omega) ?_
      simp only [Int.toNat_natCast]
      have b1 := zv_R h 169 i
      refine ab_iload_n (k := 1) dX2_mostOf_23 rfl rfl ?_
      refine z_idiv dX2_mostOf_24 (by omega) (by omega) (by omega) ?_
      refine z_iadd dX2_mostOf_25 ?_
      refine ab_istore_n (ls' := [(2, .int (iI (a + (Int.tdiv (zv h 169 i) l)))), (0, .ref 167), (1, .int (iI l)), (3, .int (iI (i : Int)))]) dX2_mostOf_26 rfl (by decide) rfl ?_
      refine z_iinc (k := 3) (v := (i : Int) + 1) (ls' := [(3, .int (iI ((i : Int) + 1))), (2, .int (iI (a + (Int.tdiv (zv h 169 i) l)))), (0, .ref 167), (1, .int (iI l))]) dX2_mostOf_27 rfl rfl (by decide) rfl ?_
      refine ab_goto (tgt := 4) dX2_mostOf_30 (by decide) ?_
      refine ab_sub (ls' := [(0, .ref 167), (1, .int (iI l)), (2, .int (iI (a + (Int.tdiv (zv h 169 i) l)))), (3, .int (iI ((i : Int) + 1)))]) (ks := [2, 3, 1, 0]) rfl ?_
      exact ih _ (by omega) (i + 1) _ _ rfl rfl (by omega) (by rw [ha, sT_s])
theorem c_mostOf {d : Nat} {h : ab_H} {Q : ab_Q} {g : Nat} {l : Int} (hg : gOK h g) (hl : 1 ≤ l ∧ l ≤ 100) (K : Q (some (.int (iI (sT (fun i => Int.tdiv (zv h 169 i) l) g)))) h) : ab_X d mX2_mostOf 0 (lv_args 0 [.ref 167, .int (iI l)]) [] h Q := by
  show ab_X d mX2_mostOf 0 [(0, .ref 167), (1, .int (iI l))] [] h Q
  refine z_iconst dX2_mostOf_0 ?_
  refine ab_istore_n (ls' := [(2, .int (iI 0)), (0, .ref 167), (1, .int (iI l))]) dX2_mostOf_1 rfl (by decide) rfl ?_
  refine z_iconst dX2_mostOf_2 ?_
  refine ab_istore_n (ls' := [(3, .int (iI 0)), (2, .int (iI 0)), (0, .ref 167), (1, .int (iI l))]) dX2_mostOf_3 rfl (by decide) rfl ?_
  refine ab_sub (ls' := [(0, .ref 167), (1, .int (iI l)), (2, .int (iI 0)), (3, .int (iI 0))]) (ks := [2, 3, 1, 0]) rfl ?_
  exact lp_mostOf hg hl K _ 0 0 h rfl rfl (by omega) rfl
theorem lp_longest {d : Nat} {Q : ab_Q} {h0 : ab_H} {g : Nat} (hg : gOK h0 g) (K : Q (some (.int (iI (mT (zv h0 169) 0 g)))) h0) : ∀ (nn : Nat) (i : Nat) (a : Int) (h : ab_H), g - i = nn → (h = h0) → (i ≤ g) → (a = mT (zv h0 169) 0 i) → ab_X (d + 1) mX2_longest 4 [(0, .ref 167), (1, .int (iI a)), (2, .int (iI (i : Int)))] [] h Q := by
  intro nn
  induction nn using Nat.strongRecOn with
  | ind nn ih =>
  intro i a h hnn hh h2 ha
  subst hh
  have hg1 := hg.1
  have hg2 := hg.2.1
  have hab := mT_b (f := zv h 169) (a := 0) (b := 20) (n := i) (by decide) (fun j hj => (hg.2.2 j (by omega)).1)
  rw [← ha] at hab
  refine ab_iload_n (k := 2) dX2_longest_4 rfl rfl ?_
  refine ab_aload_n (k := 0) dX2_longest_5 rfl rfl ?_
  refine z_getI dX2_longest_6 fX2_18 rfl (Or.inl rfl) ?_
  refine z_is (y := (g : Int)) hg1 ?_
  refine z_icmp_ge (tgt := 29) dX2_longest_9 (by decide) (by omega) (by omega) (fun c9 => ?_) (fun c9 => ?_)
  · skip
    refine ab_iload_n (k := 1) dX2_longest_29 rfl rfl ?_
    refine z_iret dX2_longest_30 rfl ?_
    have e : i = g := by omega
    subst e
    rw [ha]
    exact K
  · skip
    have hz := hg.2.2 i (by omega)
    refine ab_iload_n (k := 1) dX2_longest_12 rfl rfl ?_
    refine ab_aload_n (k := 0) dX2_longest_13 rfl rfl ?_
    refine z_getP (b := 169) dX2_longest_14 fX2_15 rfl rfl rfl ?_
    refine ab_iload_n (k := 2) dX2_longest_17 rfl rfl ?_
    refine z_iald dX2_longest_18 rfl (by omega) (by omega) ?_
    simp only [Int.toNat_natCast]
    have b1 := zv_R h 169 i
    refine z_mmax dX2_longest_19 lX2_41 (Nat.le_of_ble_eq_true rfl) (by omega) (by omega) ?_
    refine ab_istore_n (ls' := [(1, .int (iI (max a (zv h 169 i)))), (0, .ref 167), (2, .int (iI (i : Int)))]) dX2_longest_22 rfl (by decide) rfl ?_
    refine z_iinc (k := 2) (v := (i : Int) + 1) (ls' := [(2, .int (iI ((i : Int) + 1))), (1, .int (iI (max a (zv h 169 i)))), (0, .ref 167)]) dX2_longest_23 rfl rfl (by decide) rfl ?_
    refine ab_goto (tgt := 4) dX2_longest_26 (by decide) ?_
    refine ab_sub (ls' := [(0, .ref 167), (1, .int (iI (max a (zv h 169 i)))), (2, .int (iI ((i : Int) + 1)))]) (ks := [2, 1, 0]) rfl ?_
    exact ih _ (by omega) (i + 1) _ _ rfl rfl (by omega) (by rw [ha, mT_s])
theorem c_longest {d : Nat} {h : ab_H} {Q : ab_Q} {g : Nat} (hg : gOK h g) (K : Q (some (.int (iI (mT (zv h 169) 0 g)))) h) : ab_X (d + 1) mX2_longest 0 (lv_args 0 [.ref 167]) [] h Q := by
  show ab_X (d + 1) mX2_longest 0 [(0, .ref 167)] [] h Q
  refine z_iconst dX2_longest_0 ?_
  refine ab_istore_n (ls' := [(1, .int (iI 0)), (0, .ref 167)]) dX2_longest_1 rfl (by decide) rfl ?_
  refine z_iconst dX2_longest_2 ?_
  refine ab_istore_n (ls' := [(2, .int (iI 0)), (1, .int (iI 0)), (0, .ref 167)]) dX2_longest_3 rfl (by decide) rfl ?_
  refine ab_sub (ls' := [(0, .ref 167), (1, .int (iI 0)), (2, .int (iI 0))]) (ks := [2, 1, 0]) rfl ?_
  exact lp_longest hg K _ 0 0 h rfl rfl (by omega) rfl
theorem lp_yardsBelow {d : Nat} {Q : ab_Q} {h0 : ab_H} {g : Nat} {l : Int} (hg : gOK h0 g) (hl : inR l) (K : Q (some (.int (iI (sT (fun i => if zv h0 169 i < l then zv h0 169 i else 0) g)))) h0) : ∀ (nn : Nat) (i : Nat) (a : Int) (h : ab_H), g - i = nn → (h = h0) → (i ≤ g) → (a = sT (fun i => if zv h0 169 i < l then zv h0 169 i else 0) i) → ab_X d mX2_yardsBelow 4 [(0, .ref 167), (1, .int (iI l)), (2, .int (iI a)), (3, .int (iI (i : Int)))] [] h Q := by
  intro nn
  induction nn using Nat.strongRecOn with
  | ind nn ih =>
  intro i a h hnn hh h2 ha
  subst hh
  have hg1 := hg.1
  have hg2 := hg.2.1
  refine ab_iload_n (k := 3) dX2_yardsBelow_4 rfl rfl ?_
  refine ab_aload_n (k := 0) dX2_yardsBelow_5 rfl rfl ?_
  refine z_getI dX2_yardsBelow_6 fX2_18 rfl (Or.inl rfl) ?_
  refine z_is (y := (g : Int)) hg1 ?_
  refine z_icmp_ge (tgt := 37) dX2_yardsBelow_9 (by decide) (by omega) (by omega) (fun c9 => ?_) (fun c9 => ?_)
  · skip
    refine ab_iload_n (k := 2) dX2_yardsBelow_37 rfl rfl ?_
    refine z_iret dX2_yardsBelow_38 rfl ?_
    have e : i = g := by omega
    subst e
    rw [ha]
    exact K
  · skip
    have hz := hg.2.2 i (by omega)
    refine ab_aload_n (k := 0) dX2_yardsBelow_12 rfl rfl ?_
    refine z_getP (b := 169) dX2_yardsBelow_13 fX2_15 rfl rfl rfl ?_
    refine ab_iload_n (k := 3) dX2_yardsBelow_16 rfl rfl ?_
    refine z_iald dX2_yardsBelow_17 rfl (by omega) (by omega) ?_
    simp only [Int.toNat_natCast]
    have b1 := zv_R h 169 i
    refine ab_iload_n (k := 1) dX2_yardsBelow_18 rfl rfl ?_
    refine z_icmp_ge (tgt := 31) dX2_yardsBelow_19 (by decide) (by omega) (by omega) (fun c19 => ?_) (fun c19 => ?_)
    · skip
      refine z_iinc (k := 3) (v := (i : Int) + 1) (ls' := [(3, .int (iI ((i : Int) + 1))), (0, .ref 167), (1, .int (iI l)), (2, .int (iI a))]) dX2_yardsBelow_31 rfl rfl (by decide) rfl ?_
      refine ab_goto (tgt := 4) dX2_yardsBelow_34 (by decide) ?_
      refine ab_sub (ls' := [(0, .ref 167), (1, .int (iI l)), (2, .int (iI a)), (3, .int (iI ((i : Int) + 1)))]) (ks := [1, 2, 3, 0]) rfl ?_
      exact ih _ (by omega) (i + 1) _ _ rfl rfl (by omega) (by rw [ha, sT_s, if_neg (by omega)]; omega)
    · skip
      refine ab_iload_n (k := 2) dX2_yardsBelow_22 rfl rfl ?_
      refine ab_aload_n (k := 0) dX2_yardsBelow_23 rfl rfl ?_
      refine z_getP (b := 169) dX2_yardsBelow_24 fX2_15 rfl rfl rfl ?_
      refine ab_iload_n (k := 3) dX2_yardsBelow_27 rfl rfl ?_
      refine z_iald dX2_yardsBelow_28 rfl (by omega) (by omega) ?_
      simp only [Int.toNat_natCast]
      have b2 := zv_R h 169 i
      refine z_iadd dX2_yardsBelow_29 ?_
      refine ab_istore_n (ls' := [(2, .int (iI (a + (zv h 169 i)))), (0, .ref 167), (1, .int (iI l)), (3, .int (iI (i : Int)))]) dX2_yardsBelow_30 rfl (by decide) rfl ?_
      refine z_iinc (k := 3) (v := (i : Int) + 1) (ls' := [(3, .int (iI ((i : Int) + 1))), (2, .int (iI (a + (zv h 169 i)))), (0, .ref 167), (1, .int (iI l))]) dX2_yardsBelow_31 rfl rfl (by decide) rfl ?_
      refine ab_goto (tgt := 4) dX2_yardsBelow_34 (by decide) ?_
      refine ab_sub (ls' := [(0, .ref 167), (1, .int (iI l)), (2, .int (iI (a + (zv h 169 i)))), (3, .int (iI ((i : Int) + 1)))]) (ks := [2, 3, 1, 0]) rfl ?_
      exact ih _ (by omega) (i + 1) _ _ rfl rfl (by omega) (by rw [ha, sT_s, if_pos (by omega)])
theorem c_yardsBelow {d : Nat} {h : ab_H} {Q : ab_Q} {g : Nat} {l : Int} (hg : gOK h g) (hl : inR l) (K : Q (some (.int (iI (sT (fun i => if zv h 169 i < l then zv h 169 i else 0) g)))) h) : ab_X d mX2_yardsBelow 0 (lv_args 0 [.ref 167, .int (iI l)]) [] h Q := by
  show ab_X d mX2_yardsBelow 0 [(0, .ref 167), (1, .int (iI l))] [] h Q
  refine z_iconst dX2_yardsBelow_0 ?_
  refine ab_istore_n (ls' := [(2, .int (iI 0)), (0, .ref 167), (1, .int (iI l))]) dX2_yardsBelow_1 rfl (by decide) rfl ?_
  refine z_iconst dX2_yardsBelow_2 ?_
  refine ab_istore_n (ls' := [(3, .int (iI 0)), (2, .int (iI 0)), (0, .ref 167), (1, .int (iI l))]) dX2_yardsBelow_3 rfl (by decide) rfl ?_
  refine ab_sub (ls' := [(0, .ref 167), (1, .int (iI l)), (2, .int (iI 0)), (3, .int (iI 0))]) (ks := [2, 3, 1, 0]) rfl ?_
  exact lp_yardsBelow hg hl K _ 0 0 h rfl rfl (by omega) rfl
/-- the plan's sorts: n of them -/
def pOK (h : ab_H) (n : Nat) : Prop := zv h 15 3 = n ∧ n ≤ 4 ∧ ∀ i, i < n → (1 ≤ zv h 16 i ∧ zv h 16 i ≤ 9) ∧ (1 ≤ zv h 17 i ∧ zv h 17 i ≤ 9)
theorem lp_allWeights {d : Nat} {Q : ab_Q} {h0 : ab_H} {g : Nat} (hg : pOK h0 g) (K : Q (some (.int (iI (sT (zv h0 17) g)))) h0) : ∀ (nn : Nat) (i : Nat) (a : Int) (h : ab_H), g - i = nn → (h = h0) → (i ≤ g) → (a = sT (zv h0 17) i) → ab_X d mX6_allWeights 4 [(0, .ref 15), (1, .int (iI a)), (2, .int (iI (i : Int)))] [] h Q := by
  intro nn
  induction nn using Nat.strongRecOn with
  | ind nn ih =>
  intro i a h hnn hh h2 ha
  subst hh
  have hg1 := hg.1
  have hg2 := hg.2.1
  refine ab_iload_n (k := 2) dX6_allWeights_4 rfl rfl ?_
  refine ab_aload_n (k := 0) dX6_allWeights_5 rfl rfl ?_
  refine z_getI dX6_allWeights_6 fX6_22 rfl (Or.inl rfl) ?_
  refine z_is (y := (g : Int)) hg1 ?_
  refine z_icmp_ge (tgt := 27) dX6_allWeights_9 (by decide) (by omega) (by omega) (fun c9 => ?_) (fun c9 => ?_)
  · skip
    refine ab_iload_n (k := 1) dX6_allWeights_27 rfl rfl ?_
    refine z_iret dX6_allWeights_28 rfl ?_
    have e : i = g := by omega
    subst e
    rw [ha]
    exact K
  · skip
    have hz := hg.2.2 i (by omega)
    refine ab_iload_n (k := 1) dX6_allWeights_12 rfl rfl ?_
    refine ab_aload_n (k := 0) dX6_allWeights_13 rfl rfl ?_
    refine z_getP (b := 17) dX6_allWeights_14 fX6_15 rfl rfl rfl ?_
    refine ab_iload_n (k := 2) dX6_allWeights_17 rfl rfl ?_
    refine z_iald dX6_allWeights_18 rfl (by omega) (by omega) ?_
    simp only [Int.toNat_natCast]
    have b1 := zv_R h 17 i
    refine z_iadd dX6_allWeights_19 ?_
    refine ab_istore_n (ls' := [(1, .int (iI (a + (zv h 17 i)))), (0, .ref 15), (2, .int (iI (i : Int)))]) dX6_allWeights_20 rfl (by decide) rfl ?_
    refine z_iinc (k := 2) (v := (i : Int) + 1) (ls' := [(2, .int (iI ((i : Int) + 1))), (1, .int (iI (a + (zv h 17 i)))), (0, .ref 15)]) dX6_allWeights_21 rfl rfl (by decide) rfl ?_
    refine ab_goto (tgt := 4) dX6_allWeights_24 (by decide) ?_
    refine ab_sub (ls' := [(0, .ref 15), (1, .int (iI (a + (zv h 17 i)))), (2, .int (iI ((i : Int) + 1)))]) (ks := [2, 1, 0]) rfl ?_
    exact ih _ (by omega) (i + 1) _ _ rfl rfl (by omega) (by rw [ha, sT_s])
theorem c_allWeights {d : Nat} {h : ab_H} {Q : ab_Q} {g : Nat} (hg : pOK h g) (K : Q (some (.int (iI (sT (zv h 17) g)))) h) : ab_X d mX6_allWeights 0 (lv_args 0 [.ref 15]) [] h Q := by
  show ab_X d mX6_allWeights 0 [(0, .ref 15)] [] h Q
  refine z_iconst dX6_allWeights_0 ?_
  refine ab_istore_n (ls' := [(1, .int (iI 0)), (0, .ref 15)]) dX6_allWeights_1 rfl (by decide) rfl ?_
  refine z_iconst dX6_allWeights_2 ?_
  refine ab_istore_n (ls' := [(2, .int (iI 0)), (1, .int (iI 0)), (0, .ref 15)]) dX6_allWeights_3 rfl (by decide) rfl ?_
  refine ab_sub (ls' := [(0, .ref 15), (1, .int (iI 0)), (2, .int (iI 0))]) (ks := [2, 1, 0]) rfl ?_
  exact lp_allWeights hg K _ 0 0 h rfl rfl (by omega) rfl
theorem lp_sortBy {d : Nat} {Q : ab_Q} {h0 : ab_H} {g : Nat} {m : Int} (hg : pOK h0 g) (hm : 0 ≤ m ∧ m ≤ 1000) (K1 : ∀ i : Nat, i < g → m - sT (zv h0 17) i < zv h0 17 i → 0 ≤ m - sT (zv h0 17) i → Q (some (.int (iI (i : Int)))) h0) (K0 : sT (zv h0 17) g ≤ m → Q (some (.int (iI (-1)))) h0) : ∀ (nn : Nat) (i : Nat) (a : Int) (h : ab_H), g - i = nn → (h = h0) → (i ≤ g) → (a = m - sT (zv h0 17) i) → (0 ≤ a ∧ a ≤ m) → ab_X d mX6_sortBy 4 [(0, .ref 15), (2, .int (iI a)), (3, .int (iI (i : Int)))] [] h Q := by
  intro nn
  induction nn using Nat.strongRecOn with
  | ind nn ih =>
  intro i a h hnn hh h2 ha hp
  subst hh
  have hg1 := hg.1
  have hg2 := hg.2.1
  refine ab_iload_n (k := 2) dX6_sortBy_4 rfl rfl ?_
  refine ab_aload_n (k := 0) dX6_sortBy_5 rfl rfl ?_
  refine z_getI dX6_sortBy_6 fX6_22 rfl (Or.inl rfl) ?_
  refine z_is (y := (g : Int)) hg1 ?_
  refine z_icmp_ge (tgt := 39) dX6_sortBy_9 (by decide) (by omega) (by omega) (fun c9 => ?_) (fun c9 => ?_)
  · skip
    refine z_iconst dX6_sortBy_39 ?_
    refine z_iret dX6_sortBy_40 rfl ?_
    have e : i = g := by omega
    subst e
    exact K0 (by omega)
  · skip
    have hz := hg.2.2 i (by omega)
    refine ab_iload_n (k := 1) dX6_sortBy_12 rfl rfl ?_
    refine ab_aload_n (k := 0) dX6_sortBy_13 rfl rfl ?_
    refine z_getP (b := 17) dX6_sortBy_14 fX6_15 rfl rfl rfl ?_
    refine ab_iload_n (k := 2) dX6_sortBy_17 rfl rfl ?_
    refine z_iald dX6_sortBy_18 rfl (by omega) (by omega) ?_
    simp only [Int.toNat_natCast]
    have b1 := zv_R h 17 i
    refine z_icmp_ge (tgt := 24) dX6_sortBy_19 (by decide) (by omega) (by omega) (fun c19 => ?_) (fun c19 => ?_)
    · skip
      refine ab_iload_n (k := 1) dX6_sortBy_24 rfl rfl ?_
      refine ab_aload_n (k := 0) dX6_sortBy_25 rfl rfl ?_
      refine z_getP (b := 17) dX6_sortBy_26 fX6_15 rfl rfl rfl ?_
      refine ab_iload_n (k := 2) dX6_sortBy_29 rfl rfl ?_
      refine z_iald dX6_sortBy_30 rfl (by omega) (by omega) ?_
      simp only [Int.toNat_natCast]
      have b2 := zv_R h 17 i
      refine z_isub dX6_sortBy_31 ?_
      refine ab_istore_n (ls' := [(2, .int (iI (a - (zv h 17 i)))), (0, .ref 15), (3, .int (iI (i : Int)))]) dX6_sortBy_32 rfl (by decide) rfl ?_
      refine z_iinc (k := 2) (v := (i : Int) + 1) (ls' := [(3, .int (iI ((i : Int) + 1))), (2, .int (iI (a - (zv h 17 i)))), (0, .ref 15)]) dX6_sortBy_33 rfl rfl (by decide) rfl ?_
      refine ab_goto (tgt := 4) dX6_sortBy_36 (by decide) ?_
      refine ab_sub (ls' := [(0, .ref 15), (2, .int (iI (a - (zv h 17 i)))), (3, .int (iI ((i : Int) + 1)))]) (ks := [2, 1, 0]) rfl ?_
      exact ih _ (by omega) (i + 1) _ _ rfl rfl (by omega) (by rw [ha, sT_s]; omega) (by omega)
    · skip
      refine ab_iload_n (k := 2) dX6_sortBy_22 rfl rfl ?_
      refine z_iret dX6_sortBy_23 rfl ?_
      exact K1 i (by omega) (by omega) (by omega)
theorem c_sortBy {d : Nat} {h : ab_H} {Q : ab_Q} {g : Nat} {m : Int} (hg : pOK h g) (hm : 0 ≤ m ∧ m ≤ 1000) (K1 : ∀ i : Nat, i < g → m - sT (zv h 17) i < zv h 17 i → 0 ≤ m - sT (zv h 17) i → Q (some (.int (iI (i : Int)))) h) (K0 : sT (zv h 17) g ≤ m → Q (some (.int (iI (-1)))) h) : ab_X d mX6_sortBy 0 (lv_args 0 [.ref 15, .int (iI m)]) [] h Q := by
  show ab_X d mX6_sortBy 0 [(0, .ref 15), (1, .int (iI m))] [] h Q
  refine ab_iload_n (k := 1) dX6_sortBy_0 rfl rfl ?_
  refine ab_istore_n (ls' := [(2, .int (iI m)), (0, .ref 15), (1, .int (iI m))]) dX6_sortBy_1 rfl (by decide) rfl ?_
  refine z_iconst dX6_sortBy_2 ?_
  refine ab_istore_n (ls' := [(3, .int (iI 0)), (2, .int (iI m)), (0, .ref 15), (1, .int (iI m))]) dX6_sortBy_3 rfl (by decide) rfl ?_
  refine ab_sub (ls' := [(0, .ref 15), (2, .int (iI m)), (3, .int (iI 0))]) (ks := [2, 1, 0]) rfl ?_
  exact lp_sortBy hg hm K1 K0 _ 0 m h rfl rfl (by omega) (by simp [sT]) (by omega)
theorem lp_shortest {d : Nat} {Q : ab_Q} {h0 : ab_H} {g : Nat} (hg : pOK h0 g) (K : Q (some (.int (iI (nT (zv h0 16) 21 g)))) h0) : ∀ (nn : Nat) (i : Nat) (a : Int) (h : ab_H), g - i = nn → (h = h0) → (i ≤ g) → (a = nT (zv h0 16) 21 i) → ab_X (d + 1) mX6_shortest 5 [(0, .ref 15), (1, .int (iI a)), (2, .int (iI (i : Int)))] [] h Q := by
  intro nn
  induction nn using Nat.strongRecOn with
  | ind nn ih =>
  intro i a h hnn hh h2 ha
  subst hh
  have hg1 := hg.1
  have hg2 := hg.2.1
  have hab := nT_b (f := zv h 16) (a := 21) (b := 21) (n := i) (by decide) (fun j hj => by have := (hg.2.2 j (by omega)).1; omega)
  rw [← ha] at hab
  refine ab_iload_n (k := 2) dX6_shortest_5 rfl rfl ?_
  refine ab_aload_n (k := 0) dX6_shortest_6 rfl rfl ?_
  refine z_getI dX6_shortest_7 fX6_22 rfl (Or.inl rfl) ?_
  refine z_is (y := (g : Int)) hg1 ?_
  refine z_icmp_ge (tgt := 30) dX6_shortest_10 (by decide) (by omega) (by omega) (fun c10 => ?_) (fun c10 => ?_)
  · skip
    refine ab_iload_n (k := 1) dX6_shortest_30 rfl rfl ?_
    refine z_iret dX6_shortest_31 rfl ?_
    have e : i = g := by omega
    subst e
    rw [ha]
    exact K
  · skip
    have hz := hg.2.2 i (by omega)
    refine ab_iload_n (k := 1) dX6_shortest_13 rfl rfl ?_
    refine ab_aload_n (k := 0) dX6_shortest_14 rfl rfl ?_
    refine z_getP (b := 16) dX6_shortest_15 fX6_9 rfl rfl rfl ?_
    refine ab_iload_n (k := 2) dX6_shortest_18 rfl rfl ?_
    refine z_iald dX6_shortest_19 rfl (by omega) (by omega) ?_
    simp only [Int.toNat_natCast]
    have b1 := zv_R h 16 i
    refine z_mmin dX6_shortest_20 lX6_48 (Nat.le_of_ble_eq_true rfl) (by omega) (by omega) ?_
    refine ab_istore_n (ls' := [(1, .int (iI (min a (zv h 16 i)))), (0, .ref 15), (2, .int (iI (i : Int)))]) dX6_shortest_23 rfl (by decide) rfl ?_
    refine z_iinc (k := 2) (v := (i : Int) + 1) (ls' := [(2, .int (iI ((i : Int) + 1))), (1, .int (iI (min a (zv h 16 i)))), (0, .ref 15)]) dX6_shortest_24 rfl rfl (by decide) rfl ?_
    refine ab_goto (tgt := 5) dX6_shortest_27 (by decide) ?_
    refine ab_sub (ls' := [(0, .ref 15), (1, .int (iI (min a (zv h 16 i)))), (2, .int (iI ((i : Int) + 1)))]) (ks := [2, 1, 0]) rfl ?_
    exact ih _ (by omega) (i + 1) _ _ rfl rfl (by omega) (by rw [ha, nT_s])
theorem c_shortest {d : Nat} {h : ab_H} {Q : ab_Q} {g : Nat} (hg : pOK h g) (K : Q (some (.int (iI (nT (zv h 16) 21 g)))) h) : ab_X (d + 1) mX6_shortest 0 (lv_args 0 [.ref 15]) [] h Q := by
  show ab_X (d + 1) mX6_shortest 0 [(0, .ref 15)] [] h Q
  refine z_bipush dX6_shortest_0 (by decide) ?_
  refine ab_istore_n (ls' := [(1, .int (iI 21)), (0, .ref 15)]) dX6_shortest_2 rfl (by decide) rfl ?_
  refine z_iconst dX6_shortest_3 ?_
  refine ab_istore_n (ls' := [(2, .int (iI 0)), (1, .int (iI 21)), (0, .ref 15)]) dX6_shortest_4 rfl (by decide) rfl ?_
  refine ab_sub (ls' := [(0, .ref 15), (1, .int (iI 21)), (2, .int (iI 0))]) (ks := [2, 1, 0]) rfl ?_
  exact lp_shortest hg K _ 0 21 h rfl rfl (by omega) rfl
