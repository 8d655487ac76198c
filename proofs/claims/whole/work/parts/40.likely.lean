/-! LIKELY of the class -/
def clI (r : Nat) (h0 h : ab_H) (y : Nat) : Prop := sm [r] h0 h ∧ ∀ k, wv h r k = if k < y then 0 else wv h0 r k
theorem clI_step {r : Nat} {h0 h : ab_H} {y : Nat} (hI : clI r h0 h y) : clI r h0 (wp h r y 0) (y + 1) := by
  refine ⟨hI.1.trans (sm_wp (by simp)), fun k => ?_⟩
  rw [wv_wp (by decide), hI.2 k]
  by_cases e : k = y
  · subst e; rw [if_pos ⟨rfl, rfl⟩, if_pos (by omega)]
  · rw [if_neg (fun q => e q.2)]
    by_cases f : k < y
    · rw [if_pos f, if_pos (by omega)]
    · rw [if_neg f, if_neg (by omega)]
theorem lp_clear {d : Nat} {Q : ab_Q} {h0 : ab_H} {r : Nat} (hr : ab_kd r = (21, 21)) (K : ∀ h', clI r h0 h' 21 → Q none h') : ∀ (nn : Nat) (y : Nat) (h : ab_H), 21 - y = nn → (y ≤ 21) → (clI r h0 h y) → ab_X d mX5_clear 2 [(0, .ref r), (1, .int (iI (y : Int)))] [] h Q := by
  intro nn
  induction nn using Nat.strongRecOn with
  | ind nn ih =>
  intro y h hnn h2 hI
  refine ab_iload_n (k := 1) dX5_clear_2 rfl rfl ?_
  refine ab_aload_n (k := 0) dX5_clear_3 rfl rfl ?_
  refine z_alen dX5_clear_4 hr (Or.inr rfl) ?_
  refine z_icmp_ge (tgt := 18) dX5_clear_5 (by decide) (by omega) (by decide) (fun c5 => ?_) (fun c5 => ?_)
  · skip
    refine z_vret dX5_clear_18 rfl ?_
    have e : y = 21 := by omega
    subst e
    exact K h hI
  · skip
    refine ab_aload_n (k := 0) dX5_clear_8 rfl rfl ?_
    refine ab_iload_n (k := 1) dX5_clear_9 rfl rfl ?_
    refine z_lconst (v := 0) dX5_clear_10 (by decide) ?_
    refine z_last dX5_clear_11 (by assumption) (by omega) (by omega) ?_
    simp only [Int.toNat_natCast]
    refine z_iinc (k := 1) (v := (y : Int) + 1) (ls' := [(1, .int (iI ((y : Int) + 1))), (0, .ref r)]) dX5_clear_12 rfl rfl (by decide) rfl ?_
    refine ab_goto (tgt := 2) dX5_clear_15 (by decide) ?_
    refine ab_sub (ls' := [(0, .ref r), (1, .int (iI ((y : Int) + 1)))]) (ks := [1, 0]) rfl ?_
    exact ih _ (by omega) (y + 1) _ rfl (by omega) (clI_step hI)
theorem c_clear {d : Nat} {h : ab_H} {Q : ab_Q} {r : Nat} (hr : ab_kd r = (21, 21)) (K : ∀ h', clI r h h' 21 → Q none h') : ab_X d mX5_clear 0 (lv_args 0 [.ref r]) [] h Q := by
  show ab_X d mX5_clear 0 [(0, .ref r)] [] h Q
  refine z_iconst dX5_clear_0 ?_
  refine ab_istore_n (ls' := [(1, .int (iI 0)), (0, .ref r)]) dX5_clear_1 rfl (by decide) rfl ?_
  refine ab_sub (ls' := [(0, .ref r), (1, .int (iI 0))]) (ks := [1, 0]) rfl ?_
  exact lp_clear hr K _ 0 h rfl (by omega) ⟨sm.refl, fun k => by rw [if_neg (by omega)]⟩
/-- row i of the products is in as far as j -/
def apI (ra rb rs m : Nat) (h0 h : ab_H) (i j : Nat) : Prop := sm [rs] h0 h ∧ ∀ k, k < 21 → wv h rs k = wv h0 rs k + sT (aT (wv h0 ra) (wv h0 rb) m k) i + if i + m ≤ k ∧ k < i + m + j then aT (wv h0 ra) (wv h0 rb) m k i else 0
theorem apI_next {ra rb rs m : Nat} {h0 h : ab_H} {i j : Nat} (hI : apI ra rb rs m h0 h i j) (hj : 21 ≤ i + m + j) : apI ra rb rs m h0 h (i + 1) 0 := by
  refine ⟨hI.1, fun k hk => ?_⟩
  have e0 : (if i + 1 + m ≤ k ∧ k < i + 1 + m + 0 then aT (wv h0 ra) (wv h0 rb) m k (i + 1) else 0) = 0 := if_neg (by omega)
  rw [hI.2 k hk, sT_s, e0]
  by_cases e : i + m ≤ k
  · rw [if_pos (by omega)]; omega
  · rw [if_neg (by omega)]
    have : aT (wv h0 ra) (wv h0 rb) m k i = 0 := by unfold aT; rw [if_neg e]
    omega
theorem apI_skip {ra rb rs m : Nat} {h0 h : ab_H} {i : Nat} (hI : apI ra rb rs m h0 h i 0) (hz : wv h0 ra i = 0) : apI ra rb rs m h0 h (i + 1) 0 := by
  refine ⟨hI.1, fun k hk => ?_⟩
  rw [hI.2 k hk, sT_s, if_neg (by omega), if_neg (by omega)]
  have : aT (wv h0 ra) (wv h0 rb) m k i = 0 := by
    unfold aT; rw [hz, Int.zero_mul]
    split
    · exact Int.zero_tdiv _
    · rfl
  omega
theorem apI_step {ra rb rs m : Nat} {h0 h : ab_H} {i j : Nat} {x : Int} (hI : apI ra rb rs m h0 h i j) (hx : x = wv h rs (i + j + m) + Int.tdiv (wv h0 ra i * wv h0 rb j) 1000000000) (hL : inL x) : apI ra rb rs m h0 (wp h rs (i + j + m) x) i (j + 1) := by
  refine ⟨hI.1.trans (sm_wp (by simp)), fun k hk => ?_⟩
  rw [wv_wp hL]
  by_cases e : k = i + j + m
  · subst e
    rw [if_pos ⟨rfl, rfl⟩, hx, hI.2 _ hk, if_neg (by omega), if_pos (by omega)]
    have : aT (wv h0 ra) (wv h0 rb) m (i + j + m) i = Int.tdiv (wv h0 ra i * wv h0 rb j) 1000000000 := by unfold aT; rw [if_pos (by omega), show i + j + m - (i + m) = j by omega]
    omega
  · rw [if_neg (fun q => e q.2), hI.2 k hk]
    by_cases f : i + m ≤ k ∧ k < i + m + j
    · rw [if_pos f, if_pos (by omega)]
    · rw [if_neg f, if_neg (by omega)]
theorem apI_b {ra rb rs m : Nat} {h0 h : ab_H} {i j : Nat} (ha : rowOK (wv h0 ra)) (hb : rowOK (wv h0 rb)) (hi : i < 21) (hs : ∀ k, k < 21 → 0 ≤ wv h0 rs k ∧ wv h0 rs k ≤ 1000000000000) (hI : apI ra rb rs m h0 h i j) {k : Nat} (hk : k < 21) : 0 ≤ wv h rs k ∧ wv h rs k ≤ 1002000000000 := by
  have h1 := sT_nn (f := aT (wv h0 ra) (wv h0 rb) m k) i (fun t ht => (aT_b ha hb hk (by omega)).1)
  have h2 := sT_mono (f := aT (wv h0 ra) (wv h0 rb) m k) (g := wv h0 ra) i (fun t ht => (aT_b ha hb hk (by omega)).2)
  have h3 := sT_len (f := wv h0 ra) (m := i) 21 (by omega) ha.1
  have h4 := aT_b ha hb (m := m) hk hi
  have h5 := (ha.b hi).2
  have h6 := hs k hk
  have h7 := ha.2
  rw [hI.2 k hk]
  split <;> omega
theorem lp_add2 {d : Nat} {Q : ab_Q} {h0 : ab_H} {ra rb rs m i : Nat} (ha : ab_kd ra = (21, 21)) (hb : ab_kd rb = (21, 21)) (hs : ab_kd rs = (21, 21)) (has : ra ≠ rs) (hbs : rb ≠ rs) (hA : rowOK (wv h0 ra)) (hB : rowOK (wv h0 rb)) (hS : ∀ k, k < 21 → 0 ≤ wv h0 rs k ∧ wv h0 rs k ≤ 1000000000000) (hm : m ≤ 1) (hi : i < 21) (K : ∀ h', apI ra rb rs m h0 h' (i + 1) 0 → ab_X d mX5_addProducts 72 [(0, .ref ra), (1, .ref rb), (2, .ref rs), (3, .int (iI (m : Int))), (4, .int (iI (i : Int)))] [] h' Q) : ∀ (nn : Nat) (j : Nat) (h : ab_H), 21 - j = nn → (j ≤ 21) → (apI ra rb rs m h0 h i j) → ab_X d mX5_addProducts 22 [(0, .ref ra), (1, .ref rb), (2, .ref rs), (3, .int (iI (m : Int))), (4, .int (iI (i : Int))), (5, .int (iI (j : Int)))] [] h Q := by
  intro nn
  induction nn using Nat.strongRecOn with
  | ind nn ih =>
  intro j h hnn h2 hI
  refine ab_iload (k := 5) dX5_addProducts_22 rfl ?_
  refine ab_aload_n (k := 1) dX5_addProducts_24 rfl rfl ?_
  refine z_alen dX5_addProducts_25 hb (Or.inr rfl) ?_
  refine z_icmp_ge (tgt := 72) dX5_addProducts_26 (by decide) (by omega) (by decide) (fun c26 => ?_) (fun c26 => ?_)
  · skip
    refine ab_sub (ls' := [(0, .ref ra), (1, .ref rb), (2, .ref rs), (3, .int (iI (m : Int))), (4, .int (iI (i : Int)))]) (ks := [0, 1, 2, 3, 4]) rfl ?_
    exact K h (apI_next hI (by omega))
  · skip
    refine ab_iload (k := 4) dX5_addProducts_29 rfl ?_
    refine ab_iload (k := 5) dX5_addProducts_31 rfl ?_
    refine z_iadd dX5_addProducts_33 ?_
    refine ab_iload_n (k := 3) dX5_addProducts_34 rfl rfl ?_
    refine z_iadd dX5_addProducts_35 ?_
    refine z_is (y := ((i + j + m : Nat) : Int)) (by omega) ?_
    refine ab_aload_n (k := 2) dX5_addProducts_36 rfl rfl ?_
    refine z_alen dX5_addProducts_37 hs (Or.inr rfl) ?_
    refine z_icmp_ge (tgt := 72) dX5_addProducts_38 (by decide) (by omega) (by decide) (fun c38 => ?_) (fun c38 => ?_)
    · skip
      refine ab_sub (ls' := [(0, .ref ra), (1, .ref rb), (2, .ref rs), (3, .int (iI (m : Int))), (4, .int (iI (i : Int)))]) (ks := [0, 1, 2, 3, 4]) rfl ?_
      exact K h (apI_next hI (by omega))
    · skip
      have hai := hA.b hi
      have pb := pr_b (hA.b hi) (hB.b (show j < 21 by omega))
      have sb := apI_b hA hB hi hS hI (k := i + j + m) (by omega)
      refine ab_aload_n (k := 2) dX5_addProducts_41 rfl rfl ?_
      refine ab_iload (k := 4) dX5_addProducts_42 rfl ?_
      refine ab_iload (k := 5) dX5_addProducts_44 rfl ?_
      refine z_iadd dX5_addProducts_46 ?_
      refine ab_iload_n (k := 3) dX5_addProducts_47 rfl rfl ?_
      refine z_iadd dX5_addProducts_48 ?_
      refine z_is (y := ((i + j + m : Nat) : Int)) (by omega) ?_
      refine ab_dup2 dX5_addProducts_49 rfl rfl ?_
      refine z_lald dX5_addProducts_50 hs (by omega) (by omega) ?_
      simp only [Int.toNat_natCast]
      have b1 := wv_L h rs (i + j + m)
      refine ab_aload_n (k := 0) dX5_addProducts_51 rfl rfl ?_
      refine ab_iload (k := 4) dX5_addProducts_52 rfl ?_
      refine z_lald dX5_addProducts_54 ha (by omega) (by omega) ?_
      simp only [Int.toNat_natCast]
      refine z_isl (y := wv h0 ra i) (hI.1.2.1 ra i (by simp [has])) ?_
      refine ab_aload_n (k := 1) dX5_addProducts_55 rfl rfl ?_
      refine ab_iload (k := 5) dX5_addProducts_56 rfl ?_
      refine z_lald dX5_addProducts_58 hb (by omega) (by omega) ?_
      simp only [Int.toNat_natCast]
      refine z_isl (y := wv h0 rb j) (hI.1.2.1 rb j (by simp [hbs])) ?_
      refine z_lmul dX5_addProducts_59 ?_
      refine z_ldc2 (v := 1000000000) dX5_addProducts_60 qX5_61 (by decide) ?_
      refine z_ldiv dX5_addProducts_63 (by omega) (by omega) (by omega) ?_
      refine z_ladd dX5_addProducts_64 ?_
      refine z_last dX5_addProducts_65 hs (by omega) (by omega) ?_
      simp only [Int.toNat_natCast]
      refine z_iinc (k := 5) (v := (j : Int) + 1) (ls' := [(5, .int (iI ((j : Int) + 1))), (0, .ref ra), (1, .ref rb), (2, .ref rs), (3, .int (iI (m : Int))), (4, .int (iI (i : Int)))]) dX5_addProducts_66 rfl rfl (by decide) rfl ?_
      refine ab_goto (tgt := 22) dX5_addProducts_69 (by decide) ?_
      refine ab_sub (ls' := [(0, .ref ra), (1, .ref rb), (2, .ref rs), (3, .int (iI (m : Int))), (4, .int (iI (i : Int))), (5, .int (iI ((j : Int) + 1)))]) (ks := [1, 2, 3, 4, 5, 0]) rfl ?_
      exact ih _ (by omega) (j + 1) _ rfl (by omega) (apI_step hI rfl (by omega))
theorem lp_add1 {d : Nat} {Q : ab_Q} {h0 : ab_H} {ra rb rs m : Nat} (ha : ab_kd ra = (21, 21)) (hb : ab_kd rb = (21, 21)) (hs : ab_kd rs = (21, 21)) (has : ra ≠ rs) (hbs : rb ≠ rs) (hA : rowOK (wv h0 ra)) (hB : rowOK (wv h0 rb)) (hS : ∀ k, k < 21 → 0 ≤ wv h0 rs k ∧ wv h0 rs k ≤ 1000000000000) (hm : m ≤ 1) (K : ∀ h', apI ra rb rs m h0 h' 21 0 → Q none h') : ∀ (nn : Nat) (i : Nat) (h : ab_H), 21 - i = nn → (i ≤ 21) → (apI ra rb rs m h0 h i 0) → ab_X d mX5_addProducts 3 [(0, .ref ra), (1, .ref rb), (2, .ref rs), (3, .int (iI (m : Int))), (4, .int (iI (i : Int)))] [] h Q := by
  intro nn
  induction nn using Nat.strongRecOn with
  | ind nn ih =>
  intro i h hnn h2 hI
  refine ab_iload (k := 4) dX5_addProducts_3 rfl ?_
  refine ab_aload_n (k := 0) dX5_addProducts_5 rfl rfl ?_
  refine z_alen dX5_addProducts_6 ha (Or.inr rfl) ?_
  refine z_icmp_ge (tgt := 78) dX5_addProducts_7 (by decide) (by omega) (by decide) (fun c7 => ?_) (fun c7 => ?_)
  · skip
    refine z_vret dX5_addProducts_78 rfl ?_
    have e : i = 21 := by omega
    subst e
    exact K h hI
  · skip
    refine ab_aload_n (k := 0) dX5_addProducts_10 rfl rfl ?_
    refine ab_iload (k := 4) dX5_addProducts_11 rfl ?_
    refine z_lald dX5_addProducts_13 ha (by omega) (by omega) ?_
    simp only [Int.toNat_natCast]
    refine z_isl (y := wv h0 ra i) (hI.1.2.1 ra i (by simp [has])) ?_
    refine z_lconst (v := 0) dX5_addProducts_14 (by decide) ?_
    refine z_lcmp dX5_addProducts_15 (wv_L _ _ _) (by decide) (fun c15 => ?_) (fun c15 => ?_) (fun c15 => ?_)
    · skip
      refine z_if_eq (tgt := 72) dX5_addProducts_16 (by decide) (by decide) (fun c16 => absurd c16 (by decide)) (fun _ => ?_)
      refine z_iconst dX5_addProducts_19 ?_
      refine ab_istore (ls' := [(5, .int (iI 0)), (0, .ref ra), (1, .ref rb), (2, .ref rs), (3, .int (iI (m : Int))), (4, .int (iI (i : Int)))]) dX5_addProducts_20 (by decide) rfl ?_
      refine ab_sub (ls' := [(0, .ref ra), (1, .ref rb), (2, .ref rs), (3, .int (iI (m : Int))), (4, .int (iI (i : Int))), (5, .int (iI 0))]) (ks := [1, 2, 3, 4, 5, 0]) rfl ?_
      refine lp_add2 (h0 := h0) (i := i) ha hb hs has hbs hA hB hS hm (by omega) (fun h' hI' => ?_) _ 0 h rfl (by omega) hI
      refine z_iinc (k := 4) (v := (i : Int) + 1) (ls' := [(4, .int (iI ((i : Int) + 1))), (0, .ref ra), (1, .ref rb), (2, .ref rs), (3, .int (iI (m : Int)))]) dX5_addProducts_72 rfl rfl (by decide) rfl ?_
      refine ab_goto (tgt := 3) dX5_addProducts_75 (by decide) ?_
      refine ab_sub (ls' := [(0, .ref ra), (1, .ref rb), (2, .ref rs), (3, .int (iI (m : Int))), (4, .int (iI ((i : Int) + 1)))]) (ks := [1, 2, 3, 4, 0]) rfl ?_
      exact ih _ (by omega) (i + 1) h' rfl (by omega) hI'
    · skip
      refine z_if_eq (tgt := 72) dX5_addProducts_16 (by decide) (by decide) (fun _ => ?_) (fun c16 => absurd c16 (by decide))
      refine z_iinc (k := 4) (v := (i : Int) + 1) (ls' := [(4, .int (iI ((i : Int) + 1))), (0, .ref ra), (1, .ref rb), (2, .ref rs), (3, .int (iI (m : Int)))]) dX5_addProducts_72 rfl rfl (by decide) rfl ?_
      refine ab_goto (tgt := 3) dX5_addProducts_75 (by decide) ?_
      refine ab_sub (ls' := [(0, .ref ra), (1, .ref rb), (2, .ref rs), (3, .int (iI (m : Int))), (4, .int (iI ((i : Int) + 1)))]) (ks := [1, 2, 3, 4, 0]) rfl ?_
      exact ih _ (by omega) (i + 1) _ rfl (by omega) (apI_skip hI (by omega))
    · skip
      refine z_if_eq (tgt := 72) dX5_addProducts_16 (by decide) (by decide) (fun c16 => absurd c16 (by decide)) (fun _ => ?_)
      refine z_iconst dX5_addProducts_19 ?_
      refine ab_istore (ls' := [(5, .int (iI 0)), (0, .ref ra), (1, .ref rb), (2, .ref rs), (3, .int (iI (m : Int))), (4, .int (iI (i : Int)))]) dX5_addProducts_20 (by decide) rfl ?_
      refine ab_sub (ls' := [(0, .ref ra), (1, .ref rb), (2, .ref rs), (3, .int (iI (m : Int))), (4, .int (iI (i : Int))), (5, .int (iI 0))]) (ks := [1, 2, 3, 4, 5, 0]) rfl ?_
      refine lp_add2 (h0 := h0) (i := i) ha hb hs has hbs hA hB hS hm (by omega) (fun h' hI' => ?_) _ 0 h rfl (by omega) hI
      refine z_iinc (k := 4) (v := (i : Int) + 1) (ls' := [(4, .int (iI ((i : Int) + 1))), (0, .ref ra), (1, .ref rb), (2, .ref rs), (3, .int (iI (m : Int)))]) dX5_addProducts_72 rfl rfl (by decide) rfl ?_
      refine ab_goto (tgt := 3) dX5_addProducts_75 (by decide) ?_
      refine ab_sub (ls' := [(0, .ref ra), (1, .ref rb), (2, .ref rs), (3, .int (iI (m : Int))), (4, .int (iI ((i : Int) + 1)))]) (ks := [1, 2, 3, 4, 0]) rfl ?_
      exact ih _ (by omega) (i + 1) h' rfl (by omega) hI'
theorem c_addP {d : Nat} {h : ab_H} {Q : ab_Q} {ra rb rs m : Nat} (ha : ab_kd ra = (21, 21)) (hb : ab_kd rb = (21, 21)) (hs : ab_kd rs = (21, 21)) (has : ra ≠ rs) (hbs : rb ≠ rs) (hA : rowOK (wv h ra)) (hB : rowOK (wv h rb)) (hS : ∀ k, k < 21 → 0 ≤ wv h rs k ∧ wv h rs k ≤ 1000000000000) (hm : m ≤ 1) (K : ∀ h', sm [rs] h h' → (∀ k, k < 21 → wv h' rs k = wv h rs k + aP (wv h ra) (wv h rb) m k) → Q none h') : ab_X d mX5_addProducts 0 (lv_args 0 [.ref ra, .ref rb, .ref rs, .int (iI (m : Int))]) [] h Q := by
  show ab_X d mX5_addProducts 0 [(0, .ref ra), (1, .ref rb), (2, .ref rs), (3, .int (iI (m : Int)))] [] h Q
  refine z_iconst dX5_addProducts_0 ?_
  refine ab_istore (ls' := [(4, .int (iI 0)), (0, .ref ra), (1, .ref rb), (2, .ref rs), (3, .int (iI (m : Int)))]) dX5_addProducts_1 (by decide) rfl ?_
  refine ab_sub (ls' := [(0, .ref ra), (1, .ref rb), (2, .ref rs), (3, .int (iI (m : Int))), (4, .int (iI 0))]) (ks := [1, 2, 3, 4, 0]) rfl ?_
  exact lp_add1 ha hb hs has hbs hA hB hS hm (fun h' hI => K h' hI.1 (fun k hk => by rw [hI.2 k hk, if_neg (by omega)]; unfold aP; omega)) _ 0 h rfl (by omega) ⟨sm.refl, fun k hk => by rw [if_neg (by omega)]; show wv h rs k = wv h rs k + 0 + 0; omega⟩
theorem row_kd {y : Nat} (hy : y < 21) : ab_kd (176 + y) = (21, 21) := by
  have k : ∀ y, y < 21 → ab_kd (176 + y) = (21, 21) := by decide
  exact k y hy
theorem row_P {t y : Nat} : ab_P t 173 y = 176 + y := rfl
theorem rowOK_congr {a b : Nat → Int} (h : ∀ k, k < 21 → a k = b k) (r : rowOK b) : rowOK a := ⟨fun k hk => by rw [h k hk]; exact r.1 k hk, by rw [sT_congr h]; exact r.2⟩
/-- rows below n of the table stand -/
def otI (h : ab_H) (l n : Nat) : Prop := ∀ y, y < n → ∀ k, k < 21 → wv h (176 + y) k = oTb l n y k
theorem sT_one {S : Nat → Int} {n : Nat} : sT S (n + 1) = sT S n + S n := sT_s S n
/-- row y has the products of the first p pairs -/
def wbI (l y r : Nat) (h0 h : ab_H) (p : Nat) : Prop := sm [176 + y] h0 h ∧ ∀ k, k < 21 → wv h (176 + y) k = sT (fun p => aP (oTb l y p) (oTb l y (r - p)) 1 k) p
theorem wb_b {l y p k r : Nat} (hl : 1 ≤ l) (hy : y ≤ 20) (hr : r + l = y) (hp : p ≤ r + 1) (hk : k < 21) : 0 ≤ sT (fun p => aP (oTb l y p) (oTb l y (r - p)) 1 k) p ∧ sT (fun p => aP (oTb l y p) (oTb l y (r - p)) 1 k) p ≤ 1000000000 * p := by
  have := sT_b (f := fun p => aP (oTb l y p) (oTb l y (r - p)) 1 k) (b := 1000000000) (n := p) (fun i hi => (aP_row (oTb_ok hl y (by omega) i (by omega)).1 (oTb_ok hl y (by omega) (r - i) (by omega)).1 1).b hk)
  exact this
theorem lp_wpb1 {d : Nat} {Q : ab_Q} {h0 : ab_H} {l y r : Nat} (hl : 1 ≤ l) (hy : y ≤ 20) (hr : r + l = y) (hO : otI h0 l y) (K : ∀ h', wbI l y r h0 h' (r + 1) → ab_X (d + 1) mX5_weighPartsBehind 37 [(0, .ref 170), (1, .ref (176 + y)), (2, .int (iI (r : Int)))] [] h' Q) : ∀ (nn : Nat) (p : Nat) (h : ab_H), r + 1 - p = nn → (p ≤ r + 1) → (wbI l y r h0 h p) → ab_X (d + 1) mX5_weighPartsBehind 7 [(0, .ref 170), (1, .ref (176 + y)), (2, .int (iI (r : Int))), (3, .int (iI (p : Int)))] [] h Q := by
  intro nn
  induction nn using Nat.strongRecOn with
  | ind nn ih =>
  intro p h hnn h2 hI
  refine ab_iload_n (k := 3) dX5_weighPartsBehind_7 rfl rfl ?_
  refine ab_iload_n (k := 2) dX5_weighPartsBehind_8 rfl rfl ?_
  refine z_icmp_gt (tgt := 37) dX5_weighPartsBehind_9 (by decide) (by omega) (by omega) (fun c9 => ?_) (fun c9 => ?_)
  · skip
    refine ab_sub (ls' := [(0, .ref 170), (1, .ref (176 + y)), (2, .int (iI (r : Int)))]) (ks := [0, 1, 2]) rfl ?_
    have e : p = r + 1 := by omega
    subst e
    exact K h hI
  · skip
    refine ab_aload_n (k := 0) dX5_weighPartsBehind_12 rfl rfl ?_
    refine z_getP (b := 173) dX5_weighPartsBehind_13 fX5_21 rfl rfl rfl ?_
    refine ab_iload_n (k := 3) dX5_weighPartsBehind_16 rfl rfl ?_
    refine z_aald (b := 176 + p) dX5_weighPartsBehind_17 (Or.inr (Or.inr rfl)) (by omega) (by omega) row_P ?_
    refine ab_aload_n (k := 0) dX5_weighPartsBehind_18 rfl rfl ?_
    refine z_getP (b := 173) dX5_weighPartsBehind_19 fX5_21 rfl rfl rfl ?_
    refine ab_iload_n (k := 2) dX5_weighPartsBehind_22 rfl rfl ?_
    refine ab_iload_n (k := 3) dX5_weighPartsBehind_23 rfl rfl ?_
    refine z_isub dX5_weighPartsBehind_24 ?_
    refine z_is (y := ((r - p : Nat) : Int)) (by omega) ?_
    refine z_aald (b := 176 + (r - p)) dX5_weighPartsBehind_25 (Or.inr (Or.inr rfl)) (by omega) (by omega) row_P ?_
    refine ab_aload_n (k := 1) dX5_weighPartsBehind_26 rfl rfl ?_
    refine z_iconst dX5_weighPartsBehind_27 ?_
    refine ab_callS (As := [.ref (176 + p), .ref (176 + (r - p)), .ref (176 + y), .int (iI 1)]) (rest := []) dX5_weighPartsBehind_28 lX5_67 (Nat.le_of_ble_eq_true rfl) (Nat.le_of_ble_eq_true rfl) rfl ?_
    have okp : rowOK (wv h (176 + p)) := rowOK_congr (fun k hk => (hI.1.2.1 _ k (by simp; omega)).trans (hO p (by omega) k hk)) (oTb_ok hl y (by omega) p (by omega)).1
    have okq : rowOK (wv h (176 + (r - p))) := rowOK_congr (fun k hk => (hI.1.2.1 _ k (by simp; omega)).trans (hO (r - p) (by omega) k hk)) (oTb_ok hl y (by omega) (r - p) (by omega)).1
    refine c_addP (m := 1) (row_kd (by omega)) (row_kd (by omega)) (row_kd (by omega)) (by omega) (by omega) okp okq (fun k hk => by have := wb_b (k := k) hl hy hr (show p ≤ r + 1 by omega) hk; rw [hI.2 k hk]; omega) (by decide) (fun h1 hs1 hw1 => ?_)
    show ab_X (d + 1) mX5_weighPartsBehind 31 [(0, .ref 170), (1, .ref (176 + y)), (2, .int (iI (r : Int))), (3, .int (iI (p : Int)))] [] h1 _
    refine z_iinc (k := 3) (v := (p : Int) + 1) (ls' := [(3, .int (iI ((p : Int) + 1))), (0, .ref 170), (1, .ref (176 + y)), (2, .int (iI (r : Int)))]) dX5_weighPartsBehind_31 rfl rfl (by decide) rfl ?_
    refine ab_goto (tgt := 7) dX5_weighPartsBehind_34 (by decide) ?_
    refine ab_sub (ls' := [(0, .ref 170), (1, .ref (176 + y)), (2, .int (iI (r : Int))), (3, .int (iI ((p : Int) + 1)))]) (ks := [1, 2, 3, 0]) rfl ?_
    refine ih _ (by omega) (p + 1) h1 rfl (by omega) ⟨hI.1.trans hs1, fun k hk => ?_⟩
    rw [hw1 k hk, hI.2 k hk, sT_s]
    rw [aP_congr hk (fun i hi => (hI.1.2.1 _ i (by simp; omega)).trans (hO p (by omega) i hi)) (fun i hi => (hI.1.2.1 _ i (by simp; omega)).trans (hO (r - p) (by omega) i hi))]
def wdI (a : Nat) (m : Int) (h0 h : ab_H) (y : Nat) : Prop := sm [a] h0 h ∧ ∀ k, k < 21 → wv h a k = if k < y then Int.tdiv (wv h0 a k) m else wv h0 a k
theorem wdI_step {a : Nat} {m x : Int} {h0 h : ab_H} {y : Nat} (hI : wdI a m h0 h y) (hy : y < 21) (hx : x = Int.tdiv (wv h a y) m) (hL : inL x) : wdI a m h0 (wp h a y x) (y + 1) := by
  refine ⟨hI.1.trans (sm_wp (by simp)), fun k hk => ?_⟩
  have ey := hI.2 y hy
  rw [if_neg (by omega)] at ey
  rw [wv_wp hL, hI.2 k hk]
  by_cases e : k = y
  · subst e; rw [if_pos ⟨rfl, rfl⟩, if_pos (by omega), hx, ey]
  · rw [if_neg (fun q => e q.2)]
    by_cases f : k < y
    · rw [if_pos f, if_pos (by omega)]
    · rw [if_neg f, if_neg (by omega)]
theorem td_L {x m : Int} (hx : 0 ≤ x ∧ x ≤ 1000000000000) (hm : 1 ≤ m) : inL (Int.tdiv x m) := by
  have h1 := td_b hx.1 (show 0 < m by omega)
  have h2 : Int.tdiv x m ≤ m * Int.tdiv x m := by
    have := Int.mul_le_mul_of_nonneg_right hm h1.1
    rw [Int.one_mul] at this; exact this
  have := h1.1
  constructor <;> omega
theorem lp_wpb2 {d : Nat} {Q : ab_Q} {h0 : ab_H} {y r : Nat} (hy : y ≤ 20) (hr : r ≤ 20) (hb : ∀ k, k < 21 → 0 ≤ wv h0 (176 + y) k ∧ wv h0 (176 + y) k ≤ 1000000000000) (K : ∀ h', wdI (176 + y) ((r : Int) + 1) h0 h' 21 → Q none h') : ∀ (nn : Nat) (i : Nat) (h : ab_H), 21 - i = nn → (i ≤ 21) → (wdI (176 + y) ((r : Int) + 1) h0 h i) → ab_X (d + 1) mX5_weighPartsBehind 39 [(0, .ref 170), (1, .ref (176 + y)), (2, .int (iI (r : Int))), (3, .int (iI (i : Int)))] [] h Q := by
  intro nn
  induction nn using Nat.strongRecOn with
  | ind nn ih =>
  intro i h hnn h2 hI
  refine ab_iload_n (k := 3) dX5_weighPartsBehind_39 rfl rfl ?_
  refine ab_aload_n (k := 1) dX5_weighPartsBehind_40 rfl rfl ?_
  refine z_alen dX5_weighPartsBehind_41 (row_kd (by omega)) (Or.inr rfl) ?_
  refine z_icmp_ge (tgt := 61) dX5_weighPartsBehind_42 (by decide) (by omega) (by decide) (fun c42 => ?_) (fun c42 => ?_)
  · skip
    refine z_vret dX5_weighPartsBehind_61 rfl ?_
    have e : i = 21 := by omega
    subst e
    exact K h hI
  · skip
    have ei := hI.2 i (by omega)
    rw [if_neg (by omega)] at ei
    have hbi := hb i (by omega)
    refine ab_aload_n (k := 1) dX5_weighPartsBehind_45 rfl rfl ?_
    refine ab_iload_n (k := 3) dX5_weighPartsBehind_46 rfl rfl ?_
    refine ab_dup2 dX5_weighPartsBehind_47 rfl rfl ?_
    refine z_lald dX5_weighPartsBehind_48 (row_kd (by omega)) (by omega) (by omega) ?_
    simp only [Int.toNat_natCast]
    have b1 := wv_L h (176 + y) i
    refine ab_iload_n (k := 2) dX5_weighPartsBehind_49 rfl rfl ?_
    refine z_iconst dX5_weighPartsBehind_50 ?_
    refine z_iadd dX5_weighPartsBehind_51 ?_
    refine z_i2l dX5_weighPartsBehind_52 (by omega) ?_
    refine z_ldiv dX5_weighPartsBehind_53 (by omega) (by omega) (by omega) ?_
    refine z_last dX5_weighPartsBehind_54 (row_kd (by omega)) (by omega) (by omega) ?_
    simp only [Int.toNat_natCast]
    refine z_iinc (k := 3) (v := (i : Int) + 1) (ls' := [(3, .int (iI ((i : Int) + 1))), (0, .ref 170), (1, .ref (176 + y)), (2, .int (iI (r : Int)))]) dX5_weighPartsBehind_55 rfl rfl (by decide) rfl ?_
    refine ab_goto (tgt := 39) dX5_weighPartsBehind_58 (by decide) ?_
    refine ab_sub (ls' := [(0, .ref 170), (1, .ref (176 + y)), (2, .int (iI (r : Int))), (3, .int (iI ((i : Int) + 1)))]) (ks := [1, 2, 3, 0]) rfl ?_
    exact ih _ (by omega) (i + 1) _ rfl (by omega) (wdI_step hI (by omega) rfl (td_L (by omega) (by omega)))
theorem c_wpb {d : Nat} {h : ab_H} {Q : ab_Q} {l y r : Nat} (hl : 1 ≤ l) (hy : y ≤ 20) (hr : r + l = y) (hO : otI h l y) (hz : ∀ k, k < 21 → wv h (176 + y) k = 0) (K : ∀ h', sm [176 + y] h h' → (∀ k, k < 21 → wv h' (176 + y) k = oNext l y (oTb l y) k) → Q none h') : ab_X (d + 1) mX5_weighPartsBehind 0 (lv_args 0 [.ref 170, .ref (176 + y), .int (iI (r : Int))]) [] h Q := by
  show ab_X (d + 1) mX5_weighPartsBehind 0 [(0, .ref 170), (1, .ref (176 + y)), (2, .int (iI (r : Int)))] [] h Q
  refine ab_iload_n (k := 2) dX5_weighPartsBehind_0 rfl rfl ?_
  refine z_if_ge (tgt := 5) dX5_weighPartsBehind_1 (by decide) (by omega) (fun c1 => ?_) (fun c1 => ?_)
  · skip
    refine z_iconst dX5_weighPartsBehind_5 ?_
    refine ab_istore_n (ls' := [(3, .int (iI 0)), (0, .ref 170), (1, .ref (176 + y)), (2, .int (iI (r : Int)))]) dX5_weighPartsBehind_6 rfl (by decide) rfl ?_
    refine ab_sub (ls' := [(0, .ref 170), (1, .ref (176 + y)), (2, .int (iI (r : Int))), (3, .int (iI 0))]) (ks := [1, 2, 3, 0]) rfl ?_
    refine lp_wpb1 hl hy hr hO (fun h1 hI => ?_) _ 0 h rfl (by omega) ⟨sm.refl, hz⟩
    refine z_iconst dX5_weighPartsBehind_37 ?_
    refine ab_istore_n (ls' := [(3, .int (iI 0)), (0, .ref 170), (1, .ref (176 + y)), (2, .int (iI (r : Int)))]) dX5_weighPartsBehind_38 rfl (by decide) rfl ?_
    refine ab_sub (ls' := [(0, .ref 170), (1, .ref (176 + y)), (2, .int (iI (r : Int))), (3, .int (iI 0))]) (ks := [1, 2, 3, 0]) rfl ?_
    refine lp_wpb2 hy (by omega) (fun k hk => by have := wb_b (k := k) hl hy hr (Nat.le_refl (r + 1)) hk; rw [hI.2 k hk]; omega) (fun h2 hJ => K h2 (hI.1.trans hJ.1) (fun k hk => ?_)) _ 0 h1 rfl (by omega) ⟨sm.refl, fun k hk => by rw [if_neg (by omega)]⟩
    rw [hJ.2 k hk, if_pos hk, hI.2 k hk]
    unfold oNext
    rw [if_neg (by omega), show y - l = r by omega]
    rfl
  · skip
    refine z_vret dX5_weighPartsBehind_4 rfl ?_
    exact absurd c1 (by omega)
theorem otI_step {h h' : ab_H} {l n : Nat} (hI : otI h l n) (ho : ∀ z, z < n → ∀ k, wv h' (176 + z) k = wv h (176 + z) k) (hn : ∀ k, k < 21 → wv h' (176 + n) k = oNext l n (oTb l n) k) : otI h' l (n + 1) := fun z hz k hk => by
  by_cases e : z = n
  · subst e; rw [hn k hk, oTb_n]
  · rw [ho z (by omega) k, oTb_o e]; exact hI z (by omega) k hk
def rws (b : Nat) : Prop := 176 ≤ b ∧ b < 197
def smR (h h' : ab_H) : Prop := (∀ b j, ¬ rws b → zv h' b j = zv h b j) ∧ (∀ b j, ¬ rws b → wv h' b j = wv h b j) ∧ h'.2.2 = h.2.2
theorem smR_step {h0 h h' : ab_H} {y : Nat} (hy : y ≤ 20) (a : smR h0 h) (b : sm [176 + y] h h') : smR h0 h' := ⟨fun c j hc => (b.1 c j (by simp; unfold rws at hc; omega)).trans (a.1 c j hc), fun c j hc => (b.2.1 c j (by simp; unfold rws at hc; omega)).trans (a.2.1 c j hc), b.2.2.trans a.2.2⟩
theorem lp_wparts {d : Nat} {Q : ab_Q} {h0 : ab_H} {l g : Nat} (hl : 1 ≤ l) (hl2 : l ≤ 9) (hg : g ≤ 20) (K : ∀ h', smR h0 h' → otI h' l (g + 1) → Q none h') : ∀ (nn : Nat) (y : Nat) (h : ab_H), g + 1 - y = nn → (y ≤ g + 1) → (smR h0 h) → (otI h l y) → ab_X (d + 2) mX5_weighParts 2 [(0, .ref 170), (1, .int (iI (l : Int))), (2, .int (iI (g : Int))), (3, .int (iI (y : Int)))] [] h Q := by
  intro nn
  induction nn using Nat.strongRecOn with
  | ind nn ih =>
  intro y h hnn hy2 hS hI
  refine ab_iload_n (k := 3) dX5_weighParts_2 rfl rfl ?_
  refine ab_iload_n (k := 2) dX5_weighParts_3 rfl rfl ?_
  refine z_icmp_gt (tgt := 60) dX5_weighParts_4 (by decide) (by omega) (by omega) (fun c4 => ?_) (fun c4 => ?_)
  · skip
    refine z_vret dX5_weighParts_60 rfl ?_
    have e : y = g + 1 := by omega
    subst e
    exact K h hS hI
  · skip
    refine ab_iload_n (k := 3) dX5_weighParts_7 rfl rfl ?_
    refine z_bipush dX5_weighParts_8 (by decide) ?_
    refine z_icmp_gt (tgt := 60) dX5_weighParts_10 (by decide) (by omega) (by decide) (fun c10 => ?_) (fun c10 => ?_)
    · skip
      refine z_vret dX5_weighParts_60 rfl ?_
      have e : y = g + 1 := by omega
      subst e
      exact K h hS hI
    · skip
      refine ab_aload_n (k := 0) dX5_weighParts_13 rfl rfl ?_
      refine z_getP (b := 173) dX5_weighParts_14 fX5_21 rfl rfl rfl ?_
      refine ab_iload_n (k := 3) dX5_weighParts_17 rfl rfl ?_
      refine z_aald (b := 176 + y) dX5_weighParts_18 (Or.inr (Or.inr rfl)) (by omega) (by omega) row_P ?_
      refine ab_callS (As := [.ref (176 + y)]) (rest := []) dX5_weighParts_19 lX5_57 (Nat.le_of_ble_eq_true rfl) (Nat.le_of_ble_eq_true rfl) rfl ?_
      refine c_clear (row_kd (by omega)) (fun h1 hc1 => ?_)
      show ab_X (d + 2) mX5_weighParts 22 [(0, .ref 170), (1, .int (iI (l : Int))), (2, .int (iI (g : Int))), (3, .int (iI (y : Int)))] [] h1 _
      refine ab_iload_n (k := 3) dX5_weighParts_22 rfl rfl ?_
      refine ab_iload_n (k := 1) dX5_weighParts_23 rfl rfl ?_
      refine z_icmp_ge (tgt := 41) dX5_weighParts_24 (by decide) (by omega) (by omega) (fun c24 => ?_) (fun c24 => ?_)
      · skip
        refine ab_aload_n (k := 0) dX5_weighParts_41 rfl rfl ?_
        refine ab_aload_n (k := 0) dX5_weighParts_42 rfl rfl ?_
        refine z_getP (b := 173) dX5_weighParts_43 fX5_21 rfl rfl rfl ?_
        refine ab_iload_n (k := 3) dX5_weighParts_46 rfl rfl ?_
        refine z_aald (b := 176 + y) dX5_weighParts_47 (Or.inr (Or.inr rfl)) (by omega) (by omega) row_P ?_
        refine ab_iload_n (k := 3) dX5_weighParts_48 rfl rfl ?_
        refine ab_iload_n (k := 1) dX5_weighParts_49 rfl rfl ?_
        refine z_isub dX5_weighParts_50 ?_
        refine z_is (y := ((y - l : Nat) : Int)) (by omega) ?_
        refine ab_callV (As := [.ref (176 + y), .int (iI ((y - l : Nat) : Int))]) (rest := []) dX5_weighParts_51 lX5_63 rfl (Nat.le_of_ble_eq_true rfl) (Nat.le_of_ble_eq_true rfl) rfl ?_
        refine c_wpb (l := l) (y := y) (r := y - l) hl (by omega) (by omega) (fun z hz k hk => (hc1.1.2.1 _ k (by simp; omega)).trans (hI z hz k hk)) (fun k hk => by rw [hc1.2 k, if_pos hk]) (fun h2 hs2 hw2 => ?_)
        show ab_X (d + 2) mX5_weighParts 54 [(0, .ref 170), (1, .int (iI (l : Int))), (2, .int (iI (g : Int))), (3, .int (iI (y : Int)))] [] h2 _
        refine z_iinc (k := 3) (v := (y : Int) + 1) (ls' := [(3, .int (iI ((y : Int) + 1))), (0, .ref 170), (1, .int (iI (l : Int))), (2, .int (iI (g : Int)))]) dX5_weighParts_54 rfl rfl (by decide) rfl ?_
        refine ab_goto (tgt := 2) dX5_weighParts_57 (by decide) ?_
        refine ab_sub (ls' := [(0, .ref 170), (1, .int (iI (l : Int))), (2, .int (iI (g : Int))), (3, .int (iI ((y : Int) + 1)))]) (ks := [1, 2, 3, 0]) rfl ?_
        have eI : otI h2 l (y + 1) := otI_step hI (fun z hz k => by rw [hs2.2.1 _ k (by simp; omega)]; exact hc1.1.2.1 _ k (by simp; omega)) hw2
        exact ih _ (by omega) (y + 1) _ rfl (by omega) (smR_step (by omega) hS (hc1.1.trans hs2)) eI
      · skip
        refine ab_aload_n (k := 0) dX5_weighParts_27 rfl rfl ?_
        refine z_getP (b := 173) dX5_weighParts_28 fX5_21 rfl rfl rfl ?_
        refine ab_iload_n (k := 3) dX5_weighParts_31 rfl rfl ?_
        refine z_aald (b := 176 + y) dX5_weighParts_32 (Or.inr (Or.inr rfl)) (by omega) (by omega) row_P ?_
        refine z_iconst dX5_weighParts_33 ?_
        refine z_ldc2 (v := 1000000000) dX5_weighParts_34 qX5_61 (by decide) ?_
        refine z_last dX5_weighParts_37 (row_kd (by omega)) (by omega) (by omega) ?_
        refine ab_goto (tgt := 54) dX5_weighParts_38 (by decide) ?_
        refine z_iinc (k := 3) (v := (y : Int) + 1) (ls' := [(3, .int (iI ((y : Int) + 1))), (0, .ref 170), (1, .int (iI (l : Int))), (2, .int (iI (g : Int)))]) dX5_weighParts_54 rfl rfl (by decide) rfl ?_
        refine ab_goto (tgt := 2) dX5_weighParts_57 (by decide) ?_
        refine ab_sub (ls' := [(0, .ref 170), (1, .int (iI (l : Int))), (2, .int (iI (g : Int))), (3, .int (iI ((y : Int) + 1)))]) (ks := [1, 2, 3, 0]) rfl ?_
        have eI : otI (wp h1 (176 + y) 0 1000000000) l (y + 1) := by
          refine otI_step hI (fun z hz k => by rw [wv_wp_a (by omega)]; exact hc1.1.2.1 _ k (by simp; omega)) (fun k hk => ?_)
          rw [wv_wp (by decide), hc1.2 k, if_pos hk]
          unfold oNext
          rw [if_pos (show y < l by omega)]
          by_cases e : k = 0
          · rw [if_pos ⟨rfl, e⟩, if_pos e]
          · rw [if_neg (fun q => e q.2), if_neg e]
        exact ih _ (by omega) (y + 1) _ rfl (by omega) (smR_step (by omega) hS (hc1.1.trans (sm_wp (by simp)))) eI
theorem c_wparts {d : Nat} {h : ab_H} {Q : ab_Q} {l g : Nat} (hl : 1 ≤ l) (hl2 : l ≤ 9) (hg : g ≤ 20) (K : ∀ h', smR h h' → otI h' l (g + 1) → Q none h') : ab_X (d + 2) mX5_weighParts 0 (lv_args 0 [.ref 170, .int (iI (l : Int)), .int (iI (g : Int))]) [] h Q := by
  show ab_X (d + 2) mX5_weighParts 0 [(0, .ref 170), (1, .int (iI (l : Int))), (2, .int (iI (g : Int)))] [] h Q
  refine z_iconst dX5_weighParts_0 ?_
  refine ab_istore_n (ls' := [(3, .int (iI 0)), (0, .ref 170), (1, .int (iI (l : Int))), (2, .int (iI (g : Int)))]) dX5_weighParts_1 rfl (by decide) rfl ?_
  refine ab_sub (ls' := [(0, .ref 170), (1, .int (iI (l : Int))), (2, .int (iI (g : Int))), (3, .int (iI 0))]) (ks := [1, 2, 3, 0]) rfl ?_
  exact lp_wparts hl hl2 hg K _ 0 h rfl (by omega) ⟨fun _ _ _ => rfl, fun _ _ _ => rfl, rfl⟩ (fun z hz => absurd hz (by omega))
/-- one gap more of size g comes to the joint row -/
def jOp (l : Nat) (x : Nat → Int) (g : Nat) : Nat → Int := if g = 0 then x else aP x (oTb l 21 g) 0
def j0 (k : Nat) : Int := if k = 0 then 1000000000 else 0
theorem j0_ok : rowOK j0 := ⟨fun i _ => by unfold j0; split <;> decide, by decide⟩
theorem jOp_ok {l : Nat} (hl : 1 ≤ l) {x : Nat → Int} {g : Nat} (hg : g ≤ 20) (hx : rowOK x) : rowOK (jOp l x g) := by
  unfold jOp
  split
  · exact hx
  · exact aP_row hx (oTb_ok hl 21 (by omega) g (by omega)).1 0
theorem fT_ok {l : Nat} (hl : 1 ≤ l) {f : Nat → Nat} : ∀ n, (∀ i, i < n → f i ≤ 20) → rowOK (fT (jOp l) j0 f n)
  | 0, _ => j0_ok
  | n + 1, h => by rw [fT_s]; exact jOp_ok hl (h n (by omega)) (fT_ok hl n (fun i hi => h i (by omega)))
theorem otI_21 {h : ab_H} {l n y k : Nat} (hI : otI h l n) (hn : n ≤ 21) (hy : y < n) (hk : k < 21) : wv h (176 + y) k = oTb l 21 y k := by rw [hI y hy k hk, oTb_more n 21 hy hn]
def jI (l : Nat) (S : Nat → Nat) (h0 h : ab_H) (i : Nat) : Prop := sm [174, 175] h0 h ∧ ∀ k, k < 21 → wv h 174 k = fT (jOp l) j0 S i k
theorem gOK_eq {h h' : ab_H} {g : Nat} (e : ∀ b j, 167 ≤ b → b ≤ 169 → zv h' b j = zv h b j) (p : gOK h g) : gOK h' g := ⟨(e 167 2 (by omega) (by omega)).trans p.1, p.2.1, fun i hi => by rw [e 169 i (by omega) (by omega), e 168 i (by omega) (by omega)]; exact p.2.2 i hi⟩
theorem sm_wc {l : List Nat} {h : ab_H} {a b n : Nat} (hb : b ∈ l) : sm l h (wc h a b n) := ⟨fun _ _ _ => rfl, fun c j hc => by rw [wv_wc, if_neg (show ¬ c = b from fun e => hc (by rw [e]; exact hb))], rfl⟩
theorem lp_partsOf {d : Nat} {Q : ab_Q} {h0 : ab_H} {l g n : Nat} {S : Nat → Nat} {j : Int} (hl : 1 ≤ l) (hn : n ≤ 21) (hj : inR j ∧ 0 ≤ j) (hg : gOK h0 g) (hSz : ∀ i, i < g → zv h0 169 i = (S i : Int) ∧ 1 ≤ S i ∧ S i < n) (hO : otI h0 l n) (K : ∀ h', sm [174, 175] h0 h' → Q (some (.long (lL (if j < 21 then fT (jOp l) j0 S g j.toNat else 0)))) h') : ∀ (nn : Nat) (i : Nat) (h : ab_H), g - i = nn → (i ≤ g) → (jI l S h0 h i) → ab_X (d + 1) mX5_partsOf 18 [(0, .ref 170), (1, .ref 167), (2, .int (iI j)), (3, .int (iI (i : Int)))] [] h Q := by
  intro nn
  induction nn using Nat.strongRecOn with
  | ind nn ih =>
  intro i h hnn h2 hI
  have hgb := hg.2.1
  refine ab_iload_n (k := 3) dX5_partsOf_18 rfl rfl ?_
  refine ab_aload_n (k := 1) dX5_partsOf_19 rfl rfl ?_
  refine z_getI dX5_partsOf_20 fX5_38 rfl (Or.inl rfl) ?_
  refine z_is (y := (g : Int)) ((hI.1.1 167 2 (by decide)).trans hg.1) ?_
  refine z_icmp_ge (tgt := 79) dX5_partsOf_23 (by decide) (by omega) (by omega) (fun c23 => ?_) (fun c23 => ?_)
  · skip
    refine ab_iload_n (k := 2) dX5_partsOf_79 rfl rfl ?_
    refine z_if_lt (tgt := 101) dX5_partsOf_80 (by decide) (by omega) (fun c80 => ?_) (fun c80 => ?_)
    · skip
      refine z_lconst (v := 0) dX5_partsOf_101 (by decide) ?_
      refine z_lret dX5_partsOf_102 rfl ?_
      have e : i = g := by omega
      subst e
      first | (rw [if_pos (by omega), ← hI.2 j.toNat (by omega)] at K; exact K h hI.1) | (rw [if_neg (by omega)] at K; exact K h hI.1) | exact absurd hj.2 (by omega)
    · skip
      refine ab_iload_n (k := 2) dX5_partsOf_83 rfl rfl ?_
      refine ab_aload_n (k := 0) dX5_partsOf_84 rfl rfl ?_
      refine z_getP (b := 174) dX5_partsOf_85 fX5_24 rfl rfl rfl ?_
      refine z_alen dX5_partsOf_88 rfl (Or.inr rfl) ?_
      refine z_icmp_ge (tgt := 101) dX5_partsOf_89 (by decide) (by omega) (by decide) (fun c89 => ?_) (fun c89 => ?_)
      · skip
        refine z_lconst (v := 0) dX5_partsOf_101 (by decide) ?_
        refine z_lret dX5_partsOf_102 rfl ?_
        have e : i = g := by omega
        subst e
        first | (rw [if_pos (by omega), ← hI.2 j.toNat (by omega)] at K; exact K h hI.1) | (rw [if_neg (by omega)] at K; exact K h hI.1) | exact absurd hj.2 (by omega)
      · skip
        refine ab_aload_n (k := 0) dX5_partsOf_92 rfl rfl ?_
        refine z_getP (b := 174) dX5_partsOf_93 fX5_24 rfl rfl rfl ?_
        refine ab_iload_n (k := 2) dX5_partsOf_96 rfl rfl ?_
        refine z_lald dX5_partsOf_97 rfl (by omega) (by omega) ?_
        have b1 := wv_L h 174 j.toNat
        refine ab_goto (tgt := 102) dX5_partsOf_98 (by decide) ?_
        refine z_lret dX5_partsOf_102 rfl ?_
        have e : i = g := by omega
        subst e
        first | (rw [if_pos (by omega), ← hI.2 j.toNat (by omega)] at K; exact K h hI.1) | (rw [if_neg (by omega)] at K; exact K h hI.1) | exact absurd hj.2 (by omega)
  · skip
    refine ab_aload_n (k := 0) dX5_partsOf_26 rfl rfl ?_
    refine z_getP (b := 175) dX5_partsOf_27 fX5_27 rfl rfl rfl ?_
    refine ab_callS (As := [.ref 175]) (rest := []) dX5_partsOf_30 lX5_57 (Nat.le_of_ble_eq_true rfl) (Nat.le_of_ble_eq_true rfl) rfl ?_
    refine c_clear (r := 175) rfl (fun h1 hc1 => ?_)
    show ab_X (d + 1) mX5_partsOf 33 [(0, .ref 170), (1, .ref 167), (2, .int (iI j)), (3, .int (iI (i : Int)))] [] h1 _
    refine ab_aload_n (k := 0) dX5_partsOf_33 rfl rfl ?_
    refine z_getP (b := 174) dX5_partsOf_34 fX5_24 rfl rfl rfl ?_
    refine ab_aload_n (k := 0) dX5_partsOf_37 rfl rfl ?_
    refine z_getP (b := 173) dX5_partsOf_38 fX5_21 rfl rfl rfl ?_
    refine ab_aload_n (k := 1) dX5_partsOf_41 rfl rfl ?_
    refine ab_iload_n (k := 3) dX5_partsOf_42 rfl rfl ?_
    refine ab_callV (As := [.int (iI (i : Int))]) (rest := [.ref 173, .ref 174]) dX5_partsOf_43 lX5_44 rfl (Nat.le_of_ble_eq_true rfl) (Nat.le_of_ble_eq_true rfl) rfl ?_
    obtain ⟨z, hz⟩ : ∃ z : Nat, z = S i := ⟨_, rfl⟩
    have hSi := hSz i (by omega)
    refine c_sizeOf (g := g) (by omega) (gOK_eq (fun b j b1 b2 => (hc1.1.1 b j (by simp; omega)).trans (hI.1.1 b j (by simp; omega))) hg) (fun _ => ?_) (fun q => absurd (show _ from ⟨by omega, by omega⟩) q)
    rw [show zv h1 169 ((i : Nat) : Int).toNat = (z : Int) from by rw [Int.toNat_natCast, hc1.1.1 169 i (by decide), hI.1.1 169 i (by decide), hz]; exact hSi.1]
    show ab_X (d + 1) mX5_partsOf 46 [(0, .ref 170), (1, .ref 167), (2, .int (iI j)), (3, .int (iI (i : Int)))] [.int (iI (z : Int)), .ref 173, .ref 174] h1 _
    refine z_aald (b := 176 + z) dX5_partsOf_46 (Or.inr (Or.inr rfl)) (by omega) (by omega) row_P ?_
    refine ab_aload_n (k := 0) dX5_partsOf_47 rfl rfl ?_
    refine z_getP (b := 175) dX5_partsOf_48 fX5_27 rfl rfl rfl ?_
    refine z_iconst dX5_partsOf_51 ?_
    refine ab_callS (As := [.ref 174, .ref (176 + z), .ref 175, .int (iI 0)]) (rest := []) dX5_partsOf_52 lX5_67 (Nat.le_of_ble_eq_true rfl) (Nat.le_of_ble_eq_true rfl) rfl ?_
    have okj : rowOK (wv h1 174) := rowOK_congr (fun k hk => (hc1.1.2.1 174 k (by decide)).trans (hI.2 k hk)) (fT_ok hl i (fun t ht => by have := hSz t (by omega); omega))
    have okp : rowOK (wv h1 (176 + z)) := rowOK_congr (fun k hk => (hc1.1.2.1 _ k (by simp; omega)).trans ((hI.1.2.1 _ k (by simp; omega)).trans (otI_21 hO (by omega) (by omega) hk))) (oTb_ok hl 21 (by omega) z (by omega)).1
    refine c_addP (m := 0) rfl (row_kd (by omega)) rfl (by decide) (by omega) okj okp (fun k hk => by rw [hc1.2 k, if_pos hk]; decide) (by decide) (fun h2 hs2 hw2 => ?_)
    show ab_X (d + 1) mX5_partsOf 55 [(0, .ref 170), (1, .ref 167), (2, .int (iI j)), (3, .int (iI (i : Int)))] [] h2 _
    refine ab_aload_n (k := 0) dX5_partsOf_55 rfl rfl ?_
    refine z_getP (b := 175) dX5_partsOf_56 fX5_27 rfl rfl rfl ?_
    refine z_iconst dX5_partsOf_59 ?_
    refine ab_aload_n (k := 0) dX5_partsOf_60 rfl rfl ?_
    refine z_getP (b := 174) dX5_partsOf_61 fX5_24 rfl rfl rfl ?_
    refine z_iconst dX5_partsOf_64 ?_
    refine ab_aload_n (k := 0) dX5_partsOf_65 rfl rfl ?_
    refine z_getP (b := 174) dX5_partsOf_66 fX5_24 rfl rfl rfl ?_
    refine z_alen dX5_partsOf_69 rfl (Or.inr rfl) ?_
    refine ab_acpl dX5_partsOf_70 lX5_71 (Nat.le_of_ble_eq_true rfl) rfl rfl (by decide) (by decide) (by decide) (Nat.le_of_ble_eq_true rfl) (Nat.le_of_ble_eq_true rfl) ?_
    show ab_X (d + 1) mX5_partsOf 73 [(0, .ref 170), (1, .ref 167), (2, .int (iI j)), (3, .int (iI (i : Int)))] [] (wc h2 175 174 21) _
    refine z_iinc (k := 3) (v := (i : Int) + 1) (ls' := [(3, .int (iI ((i : Int) + 1))), (0, .ref 170), (1, .ref 167), (2, .int (iI j))]) dX5_partsOf_73 rfl rfl (by decide) rfl ?_
    refine ab_goto (tgt := 18) dX5_partsOf_76 (by decide) ?_
    refine ab_sub (ls' := [(0, .ref 170), (1, .ref 167), (2, .int (iI j)), (3, .int (iI ((i : Int) + 1)))]) (ks := [1, 2, 3, 0]) rfl ?_
    refine ih _ (by omega) (i + 1) _ rfl (by omega) ⟨((hI.1.trans (hc1.1.mono (by decide))).trans (hs2.mono (by decide))).trans (sm_wc (by decide)), fun k hk => ?_⟩
    rw [wv_wc, if_pos rfl, if_pos hk, hw2 k hk, hc1.2 k, if_pos hk, fT_s]
    unfold jOp
    rw [if_neg (by omega), Int.zero_add, ← hz]
    exact aP_congr hk (fun t ht => (hc1.1.2.1 174 t (by decide)).trans (hI.2 t ht)) (fun t ht => (hc1.1.2.1 _ t (by simp; omega)).trans ((hI.1.2.1 _ t (by simp; omega)).trans (otI_21 hO (by omega) (by omega) ht)))
theorem c_partsOf {d : Nat} {h : ab_H} {Q : ab_Q} {l g n : Nat} {S : Nat → Nat} {j : Int} (hl : 1 ≤ l) (hn : n ≤ 21) (hj : inR j ∧ 0 ≤ j) (hg : gOK h g) (hSz : ∀ i, i < g → zv h 169 i = (S i : Int) ∧ 1 ≤ S i ∧ S i < n) (hO : otI h l n) (K : ∀ h', sm [174, 175] h h' → Q (some (.long (lL (if j < 21 then fT (jOp l) j0 S g j.toNat else 0)))) h') : ab_X (d + 1) mX5_partsOf 0 (lv_args 0 [.ref 170, .ref 167, .int (iI j)]) [] h Q := by
  show ab_X (d + 1) mX5_partsOf 0 [(0, .ref 170), (1, .ref 167), (2, .int (iI j))] [] h Q
  refine ab_aload_n (k := 0) dX5_partsOf_0 rfl rfl ?_
  refine z_getP (b := 174) dX5_partsOf_1 fX5_24 rfl rfl rfl ?_
  refine ab_callS (As := [.ref 174]) (rest := []) dX5_partsOf_4 lX5_57 (Nat.le_of_ble_eq_true rfl) (Nat.le_of_ble_eq_true rfl) rfl ?_
  refine c_clear (r := 174) rfl (fun h1 hc1 => ?_)
  show ab_X (d + 1) mX5_partsOf 7 [(0, .ref 170), (1, .ref 167), (2, .int (iI j))] [] h1 _
  refine ab_aload_n (k := 0) dX5_partsOf_7 rfl rfl ?_
  refine z_getP (b := 174) dX5_partsOf_8 fX5_24 rfl rfl rfl ?_
  refine z_iconst dX5_partsOf_11 ?_
  refine z_ldc2 (v := 1000000000) dX5_partsOf_12 qX5_61 (by decide) ?_
  refine z_last dX5_partsOf_15 rfl (by omega) (by omega) ?_
  refine z_iconst dX5_partsOf_16 ?_
  refine ab_istore_n (ls' := [(3, .int (iI 0)), (0, .ref 170), (1, .ref 167), (2, .int (iI j))]) dX5_partsOf_17 rfl (by decide) rfl ?_
  refine ab_sub (ls' := [(0, .ref 170), (1, .ref 167), (2, .int (iI j)), (3, .int (iI 0))]) (ks := [1, 2, 3, 0]) rfl ?_
  have hsx : sm [174, 175] h (wp h1 174 0 1000000000) := (hc1.1.mono (by decide)).trans (sm_wp (by decide))
  refine lp_partsOf (h0 := wp h1 174 0 1000000000) hl hn hj (gOK_eq (fun b j b1 b2 => hc1.1.1 b j (by simp; omega)) hg) (fun i hi => by rw [show zv (wp h1 174 0 1000000000) 169 i = zv h 169 i from hc1.1.1 169 i (by decide)]; exact hSz i hi) (fun y hy k hk => by rw [wv_wp_a (by omega), hc1.1.2.1 _ k (by simp; omega)]; exact hO y hy k hk) (fun h' hs' => K h' (hsx.trans hs')) _ 0 _ rfl (by omega) ⟨sm.refl, fun k hk => ?_⟩
  rw [wv_wp (by decide), hc1.2 k, if_pos hk]
  show _ = j0 k
  unfold j0
  by_cases e : k = 0
  · rw [if_pos ⟨rfl, e⟩, if_pos e]
  · rw [if_neg (fun q => e q.2), if_neg e]
theorem mT_nn {f : Nat → Int} : ∀ n, 0 ≤ mT f 0 n
  | 0 => Int.le_refl 0
  | n + 1 => by have := mT_nn (f := f) n; show 0 ≤ max (mT f 0 n) (f n); omega
theorem mT_ge {f : Nat → Int} {i : Nat} : ∀ n, i < n → f i ≤ mT f 0 n
  | 0, h => absurd h (by omega)
  | n + 1, h => by
    show f i ≤ max (mT f 0 n) (f n)
    by_cases e : i = n
    · subst e; omega
    · have := mT_ge (f := f) n (show i < n by omega); omega
theorem mT_le {f : Nat → Int} {b : Int} : ∀ n, 0 ≤ b → (∀ i, i < n → f i ≤ b) → mT f 0 n ≤ b
  | 0, h, _ => h
  | n + 1, h, g => by
    have := mT_le (f := f) n h (fun i hi => g i (by omega))
    have := g n (by omega)
    show max (mT f 0 n) (f n) ≤ b
    omega
theorem c_likely {d : Nat} {h : ab_H} {Q : ab_Q} {s x : Int} {n L : Nat} (hs : inR s) (hx : inR x) (hn : zv h 15 0 = n) (hn2 : n ≤ 20) (hN : zv h 15 3 ≤ 4) (hL : 0 ≤ s ∧ s < zv h 15 3 → zv h 16 s.toNat = L ∧ 1 ≤ L ∧ L ≤ 9) (kn : ¬ ((0 ≤ s ∧ s < zv h 15 3) ∧ 0 ≤ x) → Q (some (.long (lL (-1)))) h) (k1 : (0 ≤ s ∧ s < zv h 15 3) ∧ 0 ≤ x → ∀ h1 h2 h3, sm [167, 168, 169] h h1 → smR h1 h2 → sm [174, 175] h2 h3 → Q (some (.long (lL (if x < 21 then fT (jOp L) j0 (gAt (cfr h n)) n x.toNat else 0)))) h3) : ab_X (d + 4) mX11_likely 0 (lv_args 0 [.ref 0, .int (iI s), .int (iI x)]) [] h Q := by
  show ab_X (d + 4) mX11_likely 0 [(0, .ref 0), (1, .int (iI s)), (2, .int (iI x))] [] h Q
  refine ab_aload_n (k := 0) dX11_likely_0 rfl rfl ?_
  refine z_getP (b := 15) dX11_likely_1 fX11_35 rfl rfl rfl ?_
  refine ab_iload_n (k := 1) dX11_likely_4 rfl rfl ?_
  refine ab_callV (As := [.int (iI s)]) (rest := []) dX11_likely_5 lX11_171 rfl (Nat.le_of_ble_eq_true rfl) (Nat.le_of_ble_eq_true rfl) rfl ?_
  refine c_hasSort (by omega) (fun g5 => ?_) (fun g5 => ?_)
  · skip
    try simp only [Int.toNat_natCast] at g5
    have gL := g5
    show ab_X (d + 4) mX11_likely 8 [(0, .ref 0), (1, .int (iI s)), (2, .int (iI x))] [.int (iI 1)] h _
    refine z_if_eq (tgt := 15) dX11_likely_8 (by decide) (by decide) (fun c8 => absurd c8 (by decide)) (fun _ => ?_)
    refine ab_iload_n (k := 2) dX11_likely_11 rfl rfl ?_
    refine z_if_ge (tgt := 19) dX11_likely_12 (by decide) (by omega) (fun c12 => ?_) (fun c12 => ?_)
    · skip
      refine ab_aload_n (k := 0) dX11_likely_19 rfl rfl ?_
      refine ab_callV (As := []) (rest := []) dX11_likely_20 lX11_187 rfl (Nat.le_of_ble_eq_true rfl) (Nat.le_of_ble_eq_true rfl) rfl ?_
      refine c_lookC hn hn2 (fun h1 hs1 hG1 => ?_)
      have e150 : zv h1 15 0 = zv h 15 0 := hs1.1 15 0 (by decide)
      have e153 : zv h1 15 3 = zv h 15 3 := hs1.1 15 3 (by decide)
      show ab_X (d + 4) mX11_likely 23 [(0, .ref 0), (1, .int (iI s)), (2, .int (iI x))] [] h1 _
      refine ab_aload_n (k := 0) dX11_likely_23 rfl rfl ?_
      refine z_getP (b := 170) dX11_likely_24 fX11_80 rfl rfl rfl ?_
      refine ab_aload_n (k := 0) dX11_likely_27 rfl rfl ?_
      refine z_getP (b := 15) dX11_likely_28 fX11_35 rfl rfl rfl ?_
      refine ab_iload_n (k := 1) dX11_likely_31 rfl rfl ?_
      refine ab_callV (As := [.int (iI s)]) (rest := [.ref 170]) dX11_likely_32 lX11_174 rfl (Nat.le_of_ble_eq_true rfl) (Nat.le_of_ble_eq_true rfl) rfl ?_
      refine c_lengthOf (by omega) (by omega) (fun _ => ?_) (fun q => absurd (show _ from ⟨by omega, by omega⟩) q)
      show ab_X (d + 4) mX11_likely 35 [(0, .ref 0), (1, .int (iI s)), (2, .int (iI x))] [.int (iI (zv h1 16 s.toNat)), .ref 170] h1 _
      refine z_is (y := (L : Int)) ((hs1.1 16 _ (by decide)).trans (hL (by omega)).1) ?_
      have hLb := (hL (by omega)).2
      refine ab_aload_n (k := 0) dX11_likely_35 rfl rfl ?_
      refine z_getP (b := 167) dX11_likely_36 fX11_73 rfl rfl rfl ?_
      refine ab_callV (As := []) (rest := [.int (iI (L : Int)), .ref 170]) dX11_likely_39 lX11_269 rfl (Nat.le_of_ble_eq_true rfl) (Nat.le_of_ble_eq_true rfl) rfl ?_
      refine c_longest (GR_ok hn2 hG1) ?_
      have hgb := GR_ok hn2 hG1
      obtain ⟨m, hm⟩ : ∃ m : Nat, mT (zv h1 169) 0 (scan (cfr h n) n).1 = m := ⟨(mT (zv h1 169) 0 (scan (cfr h n) n).1).toNat, by have := mT_nn (f := zv h1 169) (scan (cfr h n) n).1; omega⟩
      have hm20 : m ≤ 20 := by have := mT_le (f := zv h1 169) (b := 20) (scan (cfr h n) n).1 (by decide) (fun i hi => (hgb.2.2 i hi).1.2); omega
      rw [hm]
      show ab_X (d + 4) mX11_likely 42 [(0, .ref 0), (1, .int (iI s)), (2, .int (iI x))] [.int (iI (m : Int)), .int (iI (L : Int)), .ref 170] h1 _
      refine ab_callV (As := [.int (iI (L : Int)), .int (iI (m : Int))]) (rest := []) dX11_likely_42 lX11_272 rfl (Nat.le_of_ble_eq_true rfl) (Nat.le_of_ble_eq_true rfl) rfl ?_
      refine c_wparts (l := L) (by omega) (by omega) (by omega) (fun h2 hs2 hO2 => ?_)
      show ab_X (d + 4) mX11_likely 45 [(0, .ref 0), (1, .int (iI s)), (2, .int (iI x))] [] h2 _
      refine ab_aload_n (k := 0) dX11_likely_45 rfl rfl ?_
      refine z_getP (b := 170) dX11_likely_46 fX11_80 rfl rfl rfl ?_
      refine ab_aload_n (k := 0) dX11_likely_49 rfl rfl ?_
      refine z_getP (b := 167) dX11_likely_50 fX11_73 rfl rfl rfl ?_
      refine ab_iload_n (k := 2) dX11_likely_53 rfl rfl ?_
      refine ab_callV (As := [.ref 167, .int (iI x)]) (rest := []) dX11_likely_54 lX11_275 rfl (Nat.le_of_ble_eq_true rfl) (Nat.le_of_ble_eq_true rfl) rfl ?_
      refine c_partsOf (l := L) (g := (scan (cfr h n) n).1) (n := m + 1) (S := (scan (cfr h n) n).2.2) (by omega) (by omega) (by omega) (gOK_eq (fun b j b1 b2 => hs2.1 b j (by unfold rws; omega)) hgb) (fun i hi => ?_) hO2 (fun h3 hs3 => ?_)
      · have e1 := (hG1.2 i hi).2
        have e2 := (scan_b (cfr h n) n).2.2 i hi
        have e3 := mT_ge (f := zv h1 169) (i := i) (scan (cfr h n) n).1 hi
        rw [hs2.1 169 i (by unfold rws; omega)]
        exact ⟨e1, by omega, by omega⟩
      rw [gat_all (op := jOp L) (e := j0) (fun x => if_pos rfl) hn2 (cfr_end (Nat.le_refl n))]
      show ab_X (d + 4) mX11_likely 57 [(0, .ref 0), (1, .int (iI s)), (2, .int (iI x))] [.long (lL (if x < 21 then fT (jOp L) j0 (gAt (cfr h n)) n x.toNat else 0))] h3 _
      refine z_lret dX11_likely_57 rfl ?_
      first | exact kn (by omega) | exact k1 (by omega) h1 h2 h3 hs1 hs2 hs3
    · skip
      refine z_ldc2 (v := (-1)) dX11_likely_15 qX11_259 (by decide) ?_
      refine z_lret dX11_likely_18 rfl ?_
      first | exact kn (by omega) | exact k1 (by omega) h1 h2 h3 hs1 hs2 hs3
  · skip
    try simp only [Int.toNat_natCast] at g5
    have gL := g5
    show ab_X (d + 4) mX11_likely 8 [(0, .ref 0), (1, .int (iI s)), (2, .int (iI x))] [.int (iI 0)] h _
    refine z_if_eq (tgt := 15) dX11_likely_8 (by decide) (by decide) (fun _ => ?_) (fun c8 => absurd c8 (by decide))
    refine z_ldc2 (v := (-1)) dX11_likely_15 qX11_259 (by decide) ?_
    refine z_lret dX11_likely_18 rfl ?_
    first | exact kn (by omega) | exact k1 (by omega) h1 h2 h3 hs1 hs2 hs3
