/-! ORDERS of the model: ways laid by sets -/
theorem tb_iff {s k : Nat} : tb s k = true ↔ s / 2 ^ k % 2 = 1 := by unfold tb; rw [Nat.testBit_eq_decide_div_mod_eq, decide_eq_true_iff]
def F9 (h0 h : ab_H) : Prop := sm [200, 223, 224] h0 h ∧ ∀ j, j ≠ 49 → zv h 200 j = zv h0 200 j
theorem F9.rf {h : ab_H} : F9 h h := ⟨sm.refl, fun _ _ => rfl⟩
theorem F9.tr {a b c : ab_H} (x : F9 a b) (y : F9 b c) : F9 a c := ⟨x.1.trans y.1, fun j p => (y.2 j p).trans (x.2 j p)⟩
theorem F9_w {h : ab_H} {k : Nat} {x : Int} : F9 h (wp h 224 k x) := ⟨sm_wp (by decide), fun j _ => rfl⟩
theorem F9_z {h : ab_H} {k : Nat} {x : Int} : F9 h (zp h 223 k x) := ⟨sm_zp (by decide), fun j _ => zv_zp_a (by decide)⟩
theorem hmx_9 {h h' : ab_H} {g bg : Nat → Bool} {ln : Nat → Nat} {n : Nat} (s : F9 h h') (x : hmx h g bg ln n) : hmx h' g bg ln n := by
  obtain ⟨a, b, e, f, i, j, k⟩ := x
  have o : ∀ b j, b < 200 ∨ (200 < b ∧ b < 223) → zv h' b j = zv h b j := fun b j hb => s.1.1 b j (by simp; omega)
  refine ⟨(s.2 32 (by decide)).trans a, b, fun y hy => by rw [o _ _ (by omega)]; exact e y hy, fun y hy => by rw [o _ _ (by omega)]; exact f y hy, fun c hc hb => ?_, fun y hy hz => ?_, fun c hc hb y y1 y2 => by rw [o _ _ (by omega)]; exact k c hc hb y y1 y2⟩
  · obtain ⟨t, t1, t2, t3, t4⟩ := i c hc hb
    exact ⟨t, t1, by rw [o _ _ (by omega)]; exact t2, by rw [o _ _ (by omega)]; exact t3, t4⟩
  · rw [o _ _ (by omega)] at hz ⊢; exact j y hy hz
def mwx (h : ab_H) (g bg : Nat → Bool) (ln cr : Nat → Nat) (n m : Nat) : Prop := hmx h g bg ln n ∧ CX g bg ln n ∧ CR bg n m cr ∧ m ≤ 12 ∧ zv h 200 49 = m ∧ ∀ k, k < m → zv h 223 k = cr k
theorem mwx_w {h : ab_H} {g bg : Nat → Bool} {ln cr : Nat → Nat} {n m k : Nat} {x : Int} (w : mwx h g bg ln cr n m) : mwx (wp h 224 k x) g bg ln cr n m := ⟨hmx_9 F9_w w.1, w.2⟩
theorem cB_cd {f : Nat → Int} {bg : Nat → Bool} : ∀ {n : Nat}, (∀ y, y < n → (bg y = true ↔ f y = (y : Int))) → cB f n = cd bg n
  | 0, _ => rfl
  | n + 1, h => by
    rw [cB_s, cd_s, cB_cd (fun y hy => h y (by omega))]
    have := h n (by omega)
    by_cases q : bg n = true
    · rw [if_pos q, if_pos (this.mp q)]
    · rw [if_neg q, if_neg (fun z => q (this.mpr z))]
/-- a yard is taken -/
def TK (h : ab_H) (cr : Nat → Nat) (n m : Nat) (y : Int) (s : Nat) : Prop := ¬ (0 ≤ y ∧ y < n) ∨ zv h 211 y.toNat = -2 ∨ ∃ j, j < m ∧ tb s j = true ∧ zv h 211 y.toNat = cr j
theorem row_cr {h : ab_H} {g bg : Nat → Bool} {ln cr : Nat → Nat} {n m : Nat} (w : mwx h g bg ln cr n m) {y j : Nat} (hy : y < 20) (hj : j < m) : zv h 211 y = cr j ↔ cr j ≤ y ∧ y < cr j + ln (cr j) := by
  have rj := w.2.2.1.2 j hj
  have hn := w.1.2.1
  constructor
  · intro q
    obtain ⟨c, c1, c2, c3, c4, c5⟩ := w.1.2.2.2.2.2.1 y hy (by omega)
    have : c = cr j := by omega
    rw [← this]; exact ⟨c4, c5⟩
  · intro q; exact w.1.2.2.2.2.2.2 (cr j) (by omega) rj.2.1 y q.1 q.2
theorem TK_lo {h : ab_H} {g bg : Nat → Bool} {ln cr : Nat → Nat} {n m : Nat} (w : mwx h g bg ln cr n m) {k s : Nat} (hk : k < m) : TK h cr n m ((cr k : Int) - 1) s ↔ lwF g cr k = true ∨ (0 < k ∧ tcF ln m cr (k - 1) = true ∧ tb s (k - 1) = true) := by
  have rk := w.2.2.1.2 k hk
  have hn := w.1.2.1
  rw [lwF_iff]
  by_cases e : cr k = 0
  · exact ⟨fun _ => Or.inl (Or.inl e), fun _ => Or.inl (by omega)⟩
  · have e2 : ((cr k : Int) - 1).toNat = cr k - 1 := by omega
    rw [← tk_lo w.2.1 hn w.2.2.1 hk (by omega)]
    unfold TK
    rw [e2]
    have hg := w.1.2.2.1 (cr k - 1) (by omega)
    constructor
    · rintro (q | q | ⟨j, j1, j2, j3⟩)
      · omega
      · exact Or.inl (Or.inr (hg.mpr q))
      · exact Or.inr ⟨j, j1, j2, (row_cr w (by omega) j1).mp j3⟩
    · rintro ((q | q) | ⟨j, j1, j2, j3⟩)
      · exact absurd q e
      · exact Or.inr (Or.inl (hg.mp q))
      · exact Or.inr (Or.inr ⟨j, j1, j2, (row_cr w (by omega) j1).mpr j3⟩)
theorem TK_hi {h : ab_H} {g bg : Nat → Bool} {ln cr : Nat → Nat} {n m : Nat} (w : mwx h g bg ln cr n m) {k s : Nat} (hk : k < m) : TK h cr n m ((cr k : Int) + (ln (cr k) : Int)) s ↔ rwF g ln n cr k = true ∨ (tcF ln m cr k = true ∧ tb s (k + 1) = true) := by
  have rk := w.2.2.1.2 k hk
  have hn := w.1.2.1
  have xk := w.2.1 (cr k) (by omega) rk.2.1
  rw [rwF_iff]
  rcases Nat.lt_or_ge (cr k + ln (cr k)) n with e | e
  · have e2 : ((cr k : Int) + (ln (cr k) : Int)).toNat = cr k + ln (cr k) := by omega
    rw [← tk_hi w.2.1 hn w.2.2.1 hk]
    unfold TK
    rw [e2]
    have hg := w.1.2.2.1 (cr k + ln (cr k)) (by omega)
    constructor
    · rintro (q | q | ⟨j, j1, j2, j3⟩)
      · omega
      · exact Or.inl (Or.inr (hg.mpr q))
      · exact Or.inr ⟨j, j1, j2, (row_cr w (by omega) j1).mp j3⟩
    · rintro ((q | q) | ⟨j, j1, j2, j3⟩)
      · omega
      · exact Or.inr (Or.inl (hg.mp q))
      · exact Or.inr (Or.inr ⟨j, j1, j2, (row_cr w (by omega) j1).mpr j3⟩)
  · exact ⟨fun _ => Or.inl (Or.inl e), fun _ => Or.inl (by omega)⟩
theorem TK_cc {h : ab_H} {g bg : Nat → Bool} {ln cr : Nat → Nat} {n m : Nat} (w : mwx h g bg ln cr n m) {k s : Nat} (hk : k < m) : cc (lwF g cr) (rwF g ln n cr) (tcF ln m cr) k (tb s) = true ↔ TK h cr n m ((cr k : Int) - 1) s ∨ TK h cr n m ((cr k : Int) + (ln (cr k) : Int)) s := by
  rw [cc_iff, TK_lo w hk, TK_hi w hk]
  constructor
  · rintro (q | q | q | q)
    · exact Or.inl (Or.inl q)
    · exact Or.inr (Or.inl q)
    · exact Or.inl (Or.inr q)
    · exact Or.inr (Or.inr q)
  · rintro ((q | q) | (q | q))
    · exact Or.inl q
    · exact Or.inr (Or.inr (Or.inl q))
    · exact Or.inr (Or.inl q)
    · exact Or.inr (Or.inr (Or.inr q))
theorem c_has {d : Nat} {h : ab_H} {Q : ab_Q} {s k : Nat} (hs : s < 4096) (hk : k < 12) (k1 : tb s k = true → Q (some (.int (iI 1))) h) (k0 : ¬ tb s k = true → Q (some (.int (iI 0))) h) : ab_X d mX12_has 0 (lv_args 0 [.int (iI (s : Int)), .int (iI (k : Int))]) [] h Q := by
  show ab_X d mX12_has 0 [(0, .int (iI (s : Int))), (1, .int (iI (k : Int)))] [] h Q
  have hq : s / 2 ^ k ≤ s := Nat.div_le_self _ _
  refine ab_iload_n (k := 0) dX12_has_0 rfl rfl ?_
  refine ab_iload_n (k := 1) dX12_has_1 rfl rfl ?_
  refine ab_ishr dX12_has_2 ?_
  refine z_top ?_
  refine z_is (y := ((s / 2 ^ k : Nat) : Int)) (shrN hs hk) ?_
  refine z_iconst dX12_has_3 ?_
  refine ab_iand dX12_has_4 ?_
  refine z_top ?_
  refine z_is (y := ((s / 2 ^ k % 2 : Nat) : Int)) (andone (by omega)) ?_
  refine z_iconst dX12_has_5 ?_
  refine z_icmp_ne (tgt := 13) dX12_has_6 (by decide) (by omega) (by decide) (fun c6 => ?_) (fun c6 => ?_)
  · skip
    refine z_iconst dX12_has_13 ?_
    refine z_zret dX12_has_14 rfl (Or.inl rfl) ?_
    first | exact k1 (tb_iff.mpr (by omega)) | exact k0 (fun q => absurd (tb_iff.mp q) (by omega))
  · skip
    refine z_iconst dX12_has_9 ?_
    refine ab_goto (tgt := 14) dX12_has_10 (by decide) ?_
    refine z_zret dX12_has_14 rfl (Or.inr rfl) ?_
    first | exact k1 (tb_iff.mpr (by omega)) | exact k0 (fun q => absurd (tb_iff.mp q) (by omega))
theorem lp_isTaken {d : Nat} {Q : ab_Q} {h0 : ab_H} {g bg : Nat → Bool} {ln cr : Nat → Nat} {n m : Nat} {y : Int} {s : Nat} (w : mwx h0 g bg ln cr n m) (hs : s < 4096) (hy : 0 ≤ y ∧ y < n) (hg : ¬ zv h0 211 y.toNat = -2) (k1 : TK h0 cr n m y s → Q (some (.int (iI 1))) h0) (k0 : ¬ TK h0 cr n m y s → Q (some (.int (iI 0))) h0) : ∀ (nn : Nat) (k : Nat) (h : ab_H), m - k = nn → (h = h0) → (k ≤ m) → (∀ j, j < k → ¬ (tb s j = true ∧ zv h0 211 y.toNat = cr j)) → ab_X (d + 1) mX12_isTaken 23 [(0, .ref 200), (1, .int (iI y)), (2, .int (iI (s : Int))), (3, .int (iI (k : Int)))] [] h Q := by
  intro nn
  induction nn using Nat.strongRecOn with
  | ind nn ih =>
  intro k h hnn hh h2 hI
  subst hh
  have hm := w.2.2.2.1
  have hn := w.1.2.1
  refine ab_iload_n (k := 3) dX12_isTaken_23 rfl rfl ?_
  refine ab_aload_n (k := 0) dX12_isTaken_24 rfl rfl ?_
  refine z_getI dX12_isTaken_25 fX12_422 rfl (Or.inl rfl) ?_
  refine z_is (y := (m : Int)) w.2.2.2.2.1 ?_
  refine z_icmp_ge (tgt := 62) dX12_isTaken_28 (by decide) (by omega) (by omega) (fun c28 => ?_) (fun c28 => ?_)
  · skip
    refine z_iconst dX12_isTaken_62 ?_
    refine z_zret dX12_isTaken_63 rfl (Or.inl rfl) ?_
    first
    | (have e : k = m := by omega
       subst e
       refine k0 (fun q => ?_)
       rcases q with q | q | ⟨j, j1, j2, j3⟩
       · exact q hy
       · exact hg q
       · exact hI j j1 ⟨j2, j3⟩)
    | exact k1 (Or.inr (Or.inr ⟨k, by omega, gh, by omega⟩))
  · skip
    refine ab_iload_n (k := 2) dX12_isTaken_31 rfl rfl ?_
    refine ab_iload_n (k := 3) dX12_isTaken_32 rfl rfl ?_
    refine ab_callS (As := [.int (iI (s : Int)), .int (iI (k : Int))]) (rest := []) dX12_isTaken_33 lX12_255 (Nat.le_of_ble_eq_true rfl) (Nat.le_of_ble_eq_true rfl) rfl ?_
    refine c_has (by omega) (by omega) (fun gh => ?_) (fun gh => ?_)
    · skip
      show ab_X (d + 1) mX12_isTaken 36 [(0, .ref 200), (1, .int (iI y)), (2, .int (iI (s : Int))), (3, .int (iI (k : Int)))] [.int (iI 1)] h _
      refine z_if_eq (tgt := 56) dX12_isTaken_36 (by decide) (by decide) (fun c36 => absurd c36 (by decide)) (fun _ => ?_)
      refine ab_aload_n (k := 0) dX12_isTaken_39 rfl rfl ?_
      refine z_getP (b := 211) dX12_isTaken_40 fX12_55 rfl rfl rfl ?_
      refine ab_iload_n (k := 1) dX12_isTaken_43 rfl rfl ?_
      refine z_iald dX12_isTaken_44 rfl (by omega) (by omega) ?_
      have b1 := zv_R h 211 y.toNat
      refine ab_aload_n (k := 0) dX12_isTaken_45 rfl rfl ?_
      refine z_getP (b := 223) dX12_isTaken_46 fX12_96 rfl rfl rfl ?_
      refine ab_iload_n (k := 3) dX12_isTaken_49 rfl rfl ?_
      have rk := w.2.2.1.2 k (by omega)
      refine z_iald dX12_isTaken_50 rfl (by omega) (by omega) ?_
      simp only [Int.toNat_natCast]
      refine z_is (y := (cr k : Int)) (w.2.2.2.2.2 k (by omega)) ?_
      refine z_icmp_ne (tgt := 56) dX12_isTaken_51 (by decide) (by omega) (by omega) (fun c51 => ?_) (fun c51 => ?_)
      · skip
        refine z_iinc (k := 3) (v := (k : Int) + 1) (ls' := [(3, .int (iI ((k : Int) + 1))), (0, .ref 200), (1, .int (iI y)), (2, .int (iI (s : Int)))]) dX12_isTaken_56 rfl rfl (by decide) rfl ?_
        refine ab_goto (tgt := 23) dX12_isTaken_59 (by decide) ?_
        refine ab_sub (ls' := [(0, .ref 200), (1, .int (iI y)), (2, .int (iI (s : Int))), (3, .int (iI ((k : Int) + 1)))]) (ks := [1, 2, 3, 0]) rfl ?_
        refine ih _ (by omega) (k + 1) h rfl rfl (by omega) (fun j hj q => ?_)
        by_cases e : j = k
        · subst e
          first | exact gh q.1 | exact absurd q.2 (by omega)
        · exact hI j (by omega) q
      · skip
        refine z_iconst dX12_isTaken_54 ?_
        refine z_zret dX12_isTaken_55 rfl (Or.inr rfl) ?_
        first
        | (have e : k = m := by omega
           subst e
           refine k0 (fun q => ?_)
           rcases q with q | q | ⟨j, j1, j2, j3⟩
           · exact q hy
           · exact hg q
           · exact hI j j1 ⟨j2, j3⟩)
        | exact k1 (Or.inr (Or.inr ⟨k, by omega, gh, by omega⟩))
    · skip
      show ab_X (d + 1) mX12_isTaken 36 [(0, .ref 200), (1, .int (iI y)), (2, .int (iI (s : Int))), (3, .int (iI (k : Int)))] [.int (iI 0)] h _
      refine z_if_eq (tgt := 56) dX12_isTaken_36 (by decide) (by decide) (fun _ => ?_) (fun c36 => absurd c36 (by decide))
      refine z_iinc (k := 3) (v := (k : Int) + 1) (ls' := [(3, .int (iI ((k : Int) + 1))), (0, .ref 200), (1, .int (iI y)), (2, .int (iI (s : Int)))]) dX12_isTaken_56 rfl rfl (by decide) rfl ?_
      refine ab_goto (tgt := 23) dX12_isTaken_59 (by decide) ?_
      refine ab_sub (ls' := [(0, .ref 200), (1, .int (iI y)), (2, .int (iI (s : Int))), (3, .int (iI ((k : Int) + 1)))]) (ks := [1, 2, 3, 0]) rfl ?_
      refine ih _ (by omega) (k + 1) h rfl rfl (by omega) (fun j hj q => ?_)
      by_cases e : j = k
      · subst e
        first | exact gh q.1 | exact absurd q.2 (by omega)
      · exact hI j (by omega) q
theorem c_isTaken {d : Nat} {h : ab_H} {Q : ab_Q} {g bg : Nat → Bool} {ln cr : Nat → Nat} {n m : Nat} {y : Int} {s : Nat} (w : mwx h g bg ln cr n m) (hs : s < 4096) (hy : -1 ≤ y ∧ y ≤ 40) (k1 : TK h cr n m y s → Q (some (.int (iI 1))) h) (k0 : ¬ TK h cr n m y s → Q (some (.int (iI 0))) h) : ab_X (d + 1) mX12_isTaken 0 (lv_args 0 [.ref 200, .int (iI y), .int (iI (s : Int))]) [] h Q := by
  show ab_X (d + 1) mX12_isTaken 0 [(0, .ref 200), (1, .int (iI y)), (2, .int (iI (s : Int)))] [] h Q
  have hn1 := w.1.1
  have hn := w.1.2.1
  refine ab_aload_n (k := 0) dX12_isTaken_0 rfl rfl ?_
  refine ab_iload_n (k := 1) dX12_isTaken_1 rfl rfl ?_
  refine ab_callV (As := [.int (iI y)]) (rest := []) dX12_isTaken_2 lX12_302 rfl (Nat.le_of_ble_eq_true rfl) (Nat.le_of_ble_eq_true rfl) rfl ?_
  refine c_misYard (by omega) (fun gY => ?_) (fun gY => ?_)
  · skip
    show ab_X (d + 1) mX12_isTaken 5 [(0, .ref 200), (1, .int (iI y)), (2, .int (iI (s : Int)))] [.int (iI 1)] h _
    refine z_if_eq (tgt := 19) dX12_isTaken_5 (by decide) (by decide) (fun c5 => absurd c5 (by decide)) (fun _ => ?_)
    refine ab_aload_n (k := 0) dX12_isTaken_8 rfl rfl ?_
    refine z_getP (b := 211) dX12_isTaken_9 fX12_55 rfl rfl rfl ?_
    refine ab_iload_n (k := 1) dX12_isTaken_12 rfl rfl ?_
    refine z_iald dX12_isTaken_13 rfl (by omega) (by omega) ?_
    have b1 := zv_R h 211 y.toNat
    refine z_bipush dX12_isTaken_14 (by decide) ?_
    refine z_icmp_ne (tgt := 21) dX12_isTaken_16 (by decide) (by omega) (by decide) (fun c16 => ?_) (fun c16 => ?_)
    · skip
      refine z_iconst dX12_isTaken_21 ?_
      refine ab_istore_n (ls' := [(3, .int (iI 0)), (0, .ref 200), (1, .int (iI y)), (2, .int (iI (s : Int)))]) dX12_isTaken_22 rfl (by decide) rfl ?_
      refine ab_sub (ls' := [(0, .ref 200), (1, .int (iI y)), (2, .int (iI (s : Int))), (3, .int (iI 0))]) (ks := [1, 2, 3, 0]) rfl ?_
      exact lp_isTaken w hs (by omega) (by omega) k1 k0 _ 0 h rfl rfl (by omega) (fun j hj => absurd hj (by omega))
    · skip
      refine z_iconst dX12_isTaken_19 ?_
      refine z_zret dX12_isTaken_20 rfl (Or.inr rfl) ?_
      first | exact k1 (Or.inl (by omega)) | exact k1 (Or.inr (Or.inl (by omega)))
  · skip
    show ab_X (d + 1) mX12_isTaken 5 [(0, .ref 200), (1, .int (iI y)), (2, .int (iI (s : Int)))] [.int (iI 0)] h _
    refine z_if_eq (tgt := 19) dX12_isTaken_5 (by decide) (by decide) (fun _ => ?_) (fun c5 => absurd c5 (by decide))
    refine z_iconst dX12_isTaken_19 ?_
    refine z_zret dX12_isTaken_20 rfl (Or.inr rfl) ?_
    first | exact k1 (Or.inl (by omega)) | exact k1 (Or.inr (Or.inl (by omega)))
theorem c_couldCome {d : Nat} {h : ab_H} {Q : ab_Q} {g bg : Nat → Bool} {ln cr : Nat → Nat} {n m : Nat} {k s : Nat} (w : mwx h g bg ln cr n m) (hs : s < 4096) (hk : k < m) (k1 : cc (lwF g cr) (rwF g ln n cr) (tcF ln m cr) k (tb s) = true → Q (some (.int (iI 1))) h) (k0 : ¬ cc (lwF g cr) (rwF g ln n cr) (tcF ln m cr) k (tb s) = true → Q (some (.int (iI 0))) h) : ab_X (d + 2) mX12_couldCome 0 (lv_args 0 [.ref 200, .int (iI (k : Int)), .int (iI (s : Int))]) [] h Q := by
  show ab_X (d + 2) mX12_couldCome 0 [(0, .ref 200), (1, .int (iI (k : Int))), (2, .int (iI (s : Int)))] [] h Q
  have hm := w.2.2.2.1
  have hn := w.1.2.1
  have rk := w.2.2.1.2 k hk
  obtain ⟨t, t1, t2, t3, t4⟩ := w.1.2.2.2.2.1 (cr k) (by omega) rk.2.1
  refine ab_aload_n (k := 0) dX12_couldCome_0 rfl rfl ?_
  refine ab_aload_n (k := 0) dX12_couldCome_1 rfl rfl ?_
  refine z_getP (b := 223) dX12_couldCome_2 fX12_96 rfl rfl rfl ?_
  refine ab_iload_n (k := 1) dX12_couldCome_5 rfl rfl ?_
  refine z_iald dX12_couldCome_6 rfl (by omega) (by omega) ?_
  simp only [Int.toNat_natCast]
  refine z_is (y := (cr k : Int)) (w.2.2.2.2.2 k hk) ?_
  refine z_iconst dX12_couldCome_7 ?_
  refine z_isub dX12_couldCome_8 ?_
  refine ab_iload_n (k := 2) dX12_couldCome_9 rfl rfl ?_
  refine ab_callV (As := [.int (iI ((cr k : Int) - 1)), .int (iI (s : Int))]) (rest := []) dX12_couldCome_10 lX12_425 rfl (Nat.le_of_ble_eq_true rfl) (Nat.le_of_ble_eq_true rfl) rfl ?_
  refine c_isTaken w hs (by omega) (fun gt1 => ?_) (fun gt1 => ?_)
  · skip
    show ab_X (d + 2) mX12_couldCome 13 [(0, .ref 200), (1, .int (iI (k : Int))), (2, .int (iI (s : Int)))] [.int (iI 1)] h _
    refine z_if_ne (tgt := 46) dX12_couldCome_13 (by decide) (by decide) (fun _ => ?_) (fun c13 => absurd c13 (by decide))
    refine z_iconst dX12_couldCome_46 ?_
    refine ab_goto (tgt := 51) dX12_couldCome_47 (by decide) ?_
    refine z_zret dX12_couldCome_51 rfl (Or.inr rfl) ?_
    first | exact k1 ((TK_cc w hk).mpr (Or.inl gt1)) | exact k1 ((TK_cc w hk).mpr (Or.inr gt2)) | exact k0 (fun q => ((TK_cc w hk).mp q).elim gt1 gt2)
  · skip
    show ab_X (d + 2) mX12_couldCome 13 [(0, .ref 200), (1, .int (iI (k : Int))), (2, .int (iI (s : Int)))] [.int (iI 0)] h _
    refine z_if_ne (tgt := 46) dX12_couldCome_13 (by decide) (by decide) (fun c13 => absurd c13 (by decide)) (fun _ => ?_)
    refine ab_aload_n (k := 0) dX12_couldCome_16 rfl rfl ?_
    refine ab_aload_n (k := 0) dX12_couldCome_17 rfl rfl ?_
    refine z_getP (b := 223) dX12_couldCome_18 fX12_96 rfl rfl rfl ?_
    refine ab_iload_n (k := 1) dX12_couldCome_21 rfl rfl ?_
    refine z_iald dX12_couldCome_22 rfl (by omega) (by omega) ?_
    simp only [Int.toNat_natCast]
    refine z_is (y := (cr k : Int)) (w.2.2.2.2.2 k hk) ?_
    refine ab_aload_n (k := 0) dX12_couldCome_23 rfl rfl ?_
    refine ab_aload_n (k := 0) dX12_couldCome_24 rfl rfl ?_
    refine z_getP (b := 212) dX12_couldCome_25 fX12_58 rfl rfl rfl ?_
    refine ab_aload_n (k := 0) dX12_couldCome_28 rfl rfl ?_
    refine z_getP (b := 223) dX12_couldCome_29 fX12_96 rfl rfl rfl ?_
    refine ab_iload_n (k := 1) dX12_couldCome_32 rfl rfl ?_
    refine z_iald dX12_couldCome_33 rfl (by omega) (by omega) ?_
    simp only [Int.toNat_natCast]
    refine z_is (y := (cr k : Int)) (w.2.2.2.2.2 k hk) ?_
    refine z_iald dX12_couldCome_34 rfl (by omega) (by omega) ?_
    refine z_is (y := (t : Int)) t2 ?_
    refine ab_callV (As := [.int (iI (t : Int))]) (rest := [.int (iI (cr k : Int)), .ref 200]) dX12_couldCome_35 lX12_312 rfl (Nat.le_of_ble_eq_true rfl) (Nat.le_of_ble_eq_true rfl) rfl ?_
    refine c_mlengthOf (by omega) ?_
    rw [show zv h 207 (2 * ((t : Nat) : Int).toNat) = (ln (cr k) : Int) from t3]
    show ab_X (d + 2) mX12_couldCome 38 [(0, .ref 200), (1, .int (iI (k : Int))), (2, .int (iI (s : Int)))] [.int (iI (ln (cr k) : Int)), .int (iI (cr k : Int)), .ref 200] h _
    refine z_iadd dX12_couldCome_38 ?_
    refine ab_iload_n (k := 2) dX12_couldCome_39 rfl rfl ?_
    refine ab_callV (As := [.int (iI ((cr k : Int) + (ln (cr k) : Int))), .int (iI (s : Int))]) (rest := []) dX12_couldCome_40 lX12_425 rfl (Nat.le_of_ble_eq_true rfl) (Nat.le_of_ble_eq_true rfl) rfl ?_
    refine c_isTaken w hs (by omega) (fun gt2 => ?_) (fun gt2 => ?_)
    · skip
      show ab_X (d + 2) mX12_couldCome 43 [(0, .ref 200), (1, .int (iI (k : Int))), (2, .int (iI (s : Int)))] [.int (iI 1)] h _
      refine z_if_eq (tgt := 50) dX12_couldCome_43 (by decide) (by decide) (fun c43 => absurd c43 (by decide)) (fun _ => ?_)
      refine z_iconst dX12_couldCome_46 ?_
      refine ab_goto (tgt := 51) dX12_couldCome_47 (by decide) ?_
      refine z_zret dX12_couldCome_51 rfl (Or.inr rfl) ?_
      first | exact k1 ((TK_cc w hk).mpr (Or.inl gt1)) | exact k1 ((TK_cc w hk).mpr (Or.inr gt2)) | exact k0 (fun q => ((TK_cc w hk).mp q).elim gt1 gt2)
    · skip
      show ab_X (d + 2) mX12_couldCome 43 [(0, .ref 200), (1, .int (iI (k : Int))), (2, .int (iI (s : Int)))] [.int (iI 0)] h _
      refine z_if_eq (tgt := 50) dX12_couldCome_43 (by decide) (by decide) (fun _ => ?_) (fun c43 => absurd c43 (by decide))
      refine z_iconst dX12_couldCome_50 ?_
      refine z_zret dX12_couldCome_51 rfl (Or.inl rfl) ?_
      first | exact k1 ((TK_cc w hk).mpr (Or.inl gt1)) | exact k1 ((TK_cc w hk).mpr (Or.inr gt2)) | exact k0 (fun q => ((TK_cc w hk).mp q).elim gt1 gt2)
/-- the ways of a set of the first m, and the sum as far as car k -/
def wS (g : Nat → Bool) (ln cr : Nat → Nat) (n m s : Nat) : Nat := wy (lwF g cr) (rwF g ln n cr) (tcF ln m cr) m (cd (tb s) m) (tb s)
def wP (g : Nat → Bool) (ln cr : Nat → Nat) (n m s k : Nat) : Nat := (if s = 0 then 1 else 0) + sN (fun j => if tb s j = true ∧ cc (lwF g cr) (rwF g ln n cr) (tcF ln m cr) j (dl (tb s) j) = true then wS g ln cr n m (s - 2 ^ j) else 0) k
theorem wS_b {g : Nat → Bool} {ln cr : Nat → Nat} {n m s : Nat} (hm : m ≤ 12) : wS g ln cr n m s ≤ 8916100448256 := wy_b12 hm (cd_le _ _)
theorem wP_b {g : Nat → Bool} {ln cr : Nat → Nat} {n m s k : Nat} (hm : m ≤ 12) (hk : k ≤ 12) : wP g ln cr n m s k ≤ 1 + 106993205379072 := by
  unfold wP
  have h1 : sN (fun j => if tb s j = true ∧ cc (lwF g cr) (rwF g ln n cr) (tcF ln m cr) j (dl (tb s) j) = true then wS g ln cr n m (s - 2 ^ j) else 0) k ≤ k * 8916100448256 := sN_le k (fun i _ => by
    by_cases q : tb s i = true ∧ cc (lwF g cr) (rwF g ln n cr) (tcF ln m cr) i (dl (tb s) i) = true
    · rw [if_pos q]; exact wS_b hm
    · rw [if_neg q]; exact Nat.zero_le _)
  have h2 : k * 8916100448256 ≤ 12 * 8916100448256 := Nat.mul_le_mul_right _ hk
  split <;> omega
theorem wP_t {g : Nat → Bool} {ln cr : Nat → Nat} {n m s k : Nat} (h : tb s k = true ∧ cc (lwF g cr) (rwF g ln n cr) (tcF ln m cr) k (dl (tb s) k) = true) : wP g ln cr n m s (k + 1) = wP g ln cr n m s k + wS g ln cr n m (s - 2 ^ k) := by
  unfold wP; rw [sN_s, if_pos h, Nat.add_assoc]
theorem wP_f {g : Nat → Bool} {ln cr : Nat → Nat} {n m s k : Nat} (h : ¬ (tb s k = true ∧ cc (lwF g cr) (rwF g ln n cr) (tcF ln m cr) k (dl (tb s) k) = true)) : wP g ln cr n m s (k + 1) = wP g ln cr n m s k := by
  unfold wP; rw [sN_s, if_neg h, Nat.add_zero]
theorem tb_ne {s : Nat} (hs : s ≠ 0) : ∃ k, tb s k = true := by
  refine Classical.byContradiction (fun q => hs ?_)
  refine Nat.eq_of_testBit_eq (fun i => ?_)
  rw [Nat.zero_testBit]
  cases e : s.testBit i with
  | false => rfl
  | true => exact absurd ⟨i, e⟩ q
theorem pow12 {m : Nat} (hm : m ≤ 12) : 2 ^ m ≤ 4096 := Nat.le_trans (Nat.pow_le_pow_right (by omega) hm) (by decide)
theorem wP_m {g : Nat → Bool} {ln cr : Nat → Nat} {n m s : Nat} (hm : m ≤ 12) (hs : s < 2 ^ m) : wP g ln cr n m s m = wS g ln cr n m s := by
  have hp := pow12 hm
  by_cases e : s = 0
  · subst e
    unfold wP wS
    rw [if_pos rfl, tb_0, cd_0, sN_zero (fun i _ => if_neg (fun q => absurd q.1 Bool.false_ne_true))]
    rfl
  · obtain ⟨k, hk⟩ := tb_ne e
    have hkm := tb_out hs hk
    have hc := cd_in hkm hk
    unfold wP wS
    obtain ⟨f, hf⟩ : ∃ f, cd (tb s) m = f + 1 := ⟨cd (tb s) m - 1, by omega⟩
    rw [if_neg e, Nat.zero_add, hf, wy_s]
    refine sN_congr (fun j hj => ?_)
    by_cases q : tb s j = true ∧ cc (lwF g cr) (rwF g ln n cr) (tcF ln m cr) j (dl (tb s) j) = true
    · rw [if_pos q, if_pos q]
      have h1 := tb_dl (show s < 4096 by omega) (show j < 12 by omega) q.1
      have h2 := cd_dl m hj q.1
      rw [h1, show cd (dl (tb s) j) m = f by omega]
    · rw [if_neg q, if_neg q]
theorem wS_all {g : Nat → Bool} {ln cr : Nat → Nat} {n m : Nat} : wS g ln cr n m (2 ^ m - 1) = WW g ln cr n m 0 m := by
  unfold wS WW Wv
  rw [tb_all, cd_ivl (by omega), Nat.sub_zero]
  congr 1; omega
theorem lp_ways3 {d : Nat} {Q : ab_Q} {h0 : ab_H} {g bg : Nat → Bool} {ln cr : Nat → Nat} {n m : Nat} {s : Nat} (hs : s < 2 ^ m) (K : ∀ h', F9 h0 h' → mwx h' g bg ln cr n m → (∀ t, t < s + 1 → wv h' 224 t = (wS g ln cr n m t : Int)) → ab_X (d + 3) mX12_layWays 154 [(0, .ref 200), (2, .int (iI (s : Int)))] [] h' Q) : ∀ (nn : Nat) (k : Nat) (h : ab_H), m - k = nn → (k ≤ m) → (F9 h0 h) → (mwx h g bg ln cr n m) → ((∀ t, t < s → wv h 224 t = (wS g ln cr n m t : Int))) → (wv h 224 s = (wP g ln cr n m s k : Int)) → ab_X (d + 3) mX12_layWays 96 [(0, .ref 200), (2, .int (iI (s : Int))), (3, .int (iI (k : Int)))] [] h Q := by
  intro nn
  induction nn using Nat.strongRecOn with
  | ind nn ih =>
  intro k h hnn h2 hF w hI hV
  have hm := w.2.2.2.1
  have hpk : 0 < 2 ^ k := Nat.pow_pos (by omega)
  have hp := pow12 hm
  have hwb := wP_b (g := g) (ln := ln) (cr := cr) (n := n) (s := s) (k := k) hm (by omega)
  refine ab_iload_n (k := 2) dX12_layWays_96 rfl rfl ?_
  refine ab_aload_n (k := 0) dX12_layWays_97 rfl rfl ?_
  refine z_getI dX12_layWays_98 fX12_422 rfl (Or.inl rfl) ?_
  refine z_is (y := (m : Int)) w.2.2.2.2.1 ?_
  refine z_icmp_ge (tgt := 154) dX12_layWays_101 (by decide) (by omega) (by omega) (fun c101 => ?_) (fun c101 => ?_)
  · skip
    refine ab_sub (ls' := [(0, .ref 200), (2, .int (iI (s : Int)))]) (ks := [0, 1]) rfl ?_
    have e : k = m := by omega
    subst e
    refine K h hF w (fun t ht => ?_)
    by_cases e2 : t = s
    · subst e2; rw [hV, wP_m hm hs]
    · exact hI t (by omega)
  · skip
    refine ab_iload_n (k := 1) dX12_layWays_104 rfl rfl ?_
    refine ab_iload_n (k := 2) dX12_layWays_105 rfl rfl ?_
    refine ab_callS (As := [.int (iI (s : Int)), .int (iI (k : Int))]) (rest := []) dX12_layWays_106 lX12_255 (Nat.le_of_ble_eq_true rfl) (Nat.le_of_ble_eq_true rfl) rfl ?_
    refine c_has (by omega) (by omega) (fun gh => ?_) (fun gh => ?_)
    · skip
      show ab_X (d + 3) mX12_layWays 109 [(0, .ref 200), (2, .int (iI (s : Int))), (3, .int (iI (k : Int)))] [.int (iI 1)] h _
      refine z_if_eq (tgt := 148) dX12_layWays_109 (by decide) (by decide) (fun c109 => absurd c109 (by decide)) (fun _ => ?_)
      refine ab_aload_n (k := 0) dX12_layWays_112 rfl rfl ?_
      refine ab_iload_n (k := 2) dX12_layWays_113 rfl rfl ?_
      refine ab_iload_n (k := 1) dX12_layWays_114 rfl rfl ?_
      refine z_iconst dX12_layWays_115 ?_
      refine ab_iload_n (k := 2) dX12_layWays_116 rfl rfl ?_
      refine ab_ishl dX12_layWays_117 ?_
      refine z_top ?_
      refine z_is (y := ((2 ^ k : Nat) : Int)) (shl1 (by omega)) ?_
      refine z_iconst dX12_layWays_118 ?_
      refine ab_ixor dX12_layWays_119 ?_
      refine z_top ?_
      have b1 := inR_of ((iI ((2 ^ k : Nat) : Int)) ^^^ (iI (-1)))
      refine ab_iand dX12_layWays_120 ?_
      refine z_top ?_
      refine z_is (y := ((s - 2 ^ k : Nat) : Int)) (clrN (by omega) (by omega) gh) ?_
      refine ab_callV (As := [.int (iI (k : Int)), .int (iI ((s - 2 ^ k : Nat) : Int))]) (rest := []) dX12_layWays_121 lX12_428 rfl (Nat.le_of_ble_eq_true rfl) (Nat.le_of_ble_eq_true rfl) rfl ?_
      refine c_couldCome w (by omega) (by omega) (fun gc => ?_) (fun gc => ?_)
      · skip
        rw [tb_dl (show s < 4096 by omega) (show k < 12 by omega) gh] at gc
        show ab_X (d + 3) mX12_layWays 124 [(0, .ref 200), (2, .int (iI (s : Int))), (3, .int (iI (k : Int)))] [.int (iI 1)] h _
        refine z_if_eq (tgt := 148) dX12_layWays_124 (by decide) (by decide) (fun c124 => absurd c124 (by decide)) (fun _ => ?_)
        refine ab_aload_n (k := 0) dX12_layWays_127 rfl rfl ?_
        refine z_getP (b := 224) dX12_layWays_128 fX12_99 rfl rfl rfl ?_
        refine ab_iload_n (k := 1) dX12_layWays_131 rfl rfl ?_
        refine ab_dup2 dX12_layWays_132 rfl rfl ?_
        refine z_lald dX12_layWays_133 rfl (by omega) (by omega) ?_
        simp only [Int.toNat_natCast]
        refine z_isl (y := (wP g ln cr n m s k : Int)) hV ?_
        refine ab_aload_n (k := 0) dX12_layWays_134 rfl rfl ?_
        refine z_getP (b := 224) dX12_layWays_135 fX12_99 rfl rfl rfl ?_
        refine ab_iload_n (k := 1) dX12_layWays_138 rfl rfl ?_
        refine z_iconst dX12_layWays_139 ?_
        refine ab_iload_n (k := 2) dX12_layWays_140 rfl rfl ?_
        refine ab_ishl dX12_layWays_141 ?_
        refine z_top ?_
        refine z_is (y := ((2 ^ k : Nat) : Int)) (shl1 (by omega)) ?_
        refine z_iconst dX12_layWays_142 ?_
        refine ab_ixor dX12_layWays_143 ?_
        refine z_top ?_
        have b2 := inR_of ((iI ((2 ^ k : Nat) : Int)) ^^^ (iI (-1)))
        refine ab_iand dX12_layWays_144 ?_
        refine z_top ?_
        refine z_is (y := ((s - 2 ^ k : Nat) : Int)) (clrN (by omega) (by omega) gh) ?_
        have hlt := tb_lt (show s < 4096 by omega) (show k < 12 by omega) gh
        refine z_lald dX12_layWays_145 rfl (by omega) (by omega) ?_
        simp only [Int.toNat_natCast]
        refine z_isl (y := (wS g ln cr n m (s - 2 ^ k) : Int)) (hI _ (tb_lt (by omega) (by omega) gh)) ?_
        refine z_ladd dX12_layWays_146 ?_
        refine z_last dX12_layWays_147 rfl (by omega) (by omega) ?_
        simp only [Int.toNat_natCast]
        refine z_iinc (k := 2) (v := (k : Int) + 1) (ls' := [(3, .int (iI ((k : Int) + 1))), (0, .ref 200), (2, .int (iI (s : Int)))]) dX12_layWays_148 rfl rfl (by decide) rfl ?_
        refine ab_goto (tgt := 96) dX12_layWays_151 (by decide) ?_
        refine ab_sub (ls' := [(0, .ref 200), (2, .int (iI (s : Int))), (3, .int (iI ((k : Int) + 1)))]) (ks := [1, 2, 0]) rfl ?_
        first
        | (refine ih _ (by omega) (k + 1) h rfl (by omega) hF w hI ?_
           rw [hV, wP_f (fun q => gh q.1)])
        | (refine ih _ (by omega) (k + 1) h rfl (by omega) hF w hI ?_
           rw [hV, wP_f (fun q => gc q.2)])
        | (have hsb := wS_b (g := g) (ln := ln) (cr := cr) (n := n) (m := m) (s := s - 2 ^ k) hm
           refine ih _ (by omega) (k + 1) _ rfl (by omega) (hF.tr F9_w) (mwx_w w) (fun t ht => ?_) ?_
           · rw [wv_wp_ne (by omega)]; exact hI t ht
           · rw [wv_wp_s (by omega), wP_t ⟨gh, gc⟩]; omega)
      · skip
        rw [tb_dl (show s < 4096 by omega) (show k < 12 by omega) gh] at gc
        show ab_X (d + 3) mX12_layWays 124 [(0, .ref 200), (2, .int (iI (s : Int))), (3, .int (iI (k : Int)))] [.int (iI 0)] h _
        refine z_if_eq (tgt := 148) dX12_layWays_124 (by decide) (by decide) (fun _ => ?_) (fun c124 => absurd c124 (by decide))
        refine z_iinc (k := 2) (v := (k : Int) + 1) (ls' := [(3, .int (iI ((k : Int) + 1))), (0, .ref 200), (2, .int (iI (s : Int)))]) dX12_layWays_148 rfl rfl (by decide) rfl ?_
        refine ab_goto (tgt := 96) dX12_layWays_151 (by decide) ?_
        refine ab_sub (ls' := [(0, .ref 200), (2, .int (iI (s : Int))), (3, .int (iI ((k : Int) + 1)))]) (ks := [1, 2, 0]) rfl ?_
        first
        | (refine ih _ (by omega) (k + 1) h rfl (by omega) hF w hI ?_
           rw [hV, wP_f (fun q => gh q.1)])
        | (refine ih _ (by omega) (k + 1) h rfl (by omega) hF w hI ?_
           rw [hV, wP_f (fun q => gc q.2)])
        | (have hsb := wS_b (g := g) (ln := ln) (cr := cr) (n := n) (m := m) (s := s - 2 ^ k) hm
           refine ih _ (by omega) (k + 1) _ rfl (by omega) (hF.tr F9_w) (mwx_w w) (fun t ht => ?_) ?_
           · rw [wv_wp_ne (by omega)]; exact hI t ht
           · rw [wv_wp_s (by omega), wP_t ⟨gh, gc⟩]; omega)
    · skip
      show ab_X (d + 3) mX12_layWays 109 [(0, .ref 200), (2, .int (iI (s : Int))), (3, .int (iI (k : Int)))] [.int (iI 0)] h _
      refine z_if_eq (tgt := 148) dX12_layWays_109 (by decide) (by decide) (fun _ => ?_) (fun c109 => absurd c109 (by decide))
      refine z_iinc (k := 2) (v := (k : Int) + 1) (ls' := [(3, .int (iI ((k : Int) + 1))), (0, .ref 200), (2, .int (iI (s : Int)))]) dX12_layWays_148 rfl rfl (by decide) rfl ?_
      refine ab_goto (tgt := 96) dX12_layWays_151 (by decide) ?_
      refine ab_sub (ls' := [(0, .ref 200), (2, .int (iI (s : Int))), (3, .int (iI ((k : Int) + 1)))]) (ks := [1, 2, 0]) rfl ?_
      first
      | (refine ih _ (by omega) (k + 1) h rfl (by omega) hF w hI ?_
         rw [hV, wP_f (fun q => gh q.1)])
      | (refine ih _ (by omega) (k + 1) h rfl (by omega) hF w hI ?_
         rw [hV, wP_f (fun q => gc q.2)])
      | (have hsb := wS_b (g := g) (ln := ln) (cr := cr) (n := n) (m := m) (s := s - 2 ^ k) hm
         refine ih _ (by omega) (k + 1) _ rfl (by omega) (hF.tr F9_w) (mwx_w w) (fun t ht => ?_) ?_
         · rw [wv_wp_ne (by omega)]; exact hI t ht
         · rw [wv_wp_s (by omega), wP_t ⟨gh, gc⟩]; omega)
theorem lp_ways2 {d : Nat} {Q : ab_Q} {h0 : ab_H} {g bg : Nat → Bool} {ln cr : Nat → Nat} {n m : Nat} (K : ∀ h', F9 h0 h' → mwx h' g bg ln cr n m → (∀ t, t < 2 ^ m → wv h' 224 t = (wS g ln cr n m t : Int)) → Q (some (.int (iI 1))) h') : ∀ (nn : Nat) (s : Nat) (h : ab_H), 2 ^ m - s = nn → (s ≤ 2 ^ m) → (F9 h0 h) → (mwx h g bg ln cr n m) → ((∀ t, t < s → wv h 224 t = (wS g ln cr n m t : Int))) → ab_X (d + 3) mX12_layWays 69 [(0, .ref 200), (2, .int (iI (s : Int)))] [] h Q := by
  intro nn
  induction nn using Nat.strongRecOn with
  | ind nn ih =>
  intro s h hnn h2 hF w hI
  have hm := w.2.2.2.1
  have hp := pow12 hm
  refine ab_iload_n (k := 1) dX12_layWays_69 rfl rfl ?_
  refine z_iconst dX12_layWays_70 ?_
  refine ab_aload_n (k := 0) dX12_layWays_71 rfl rfl ?_
  refine z_getI dX12_layWays_72 fX12_422 rfl (Or.inl rfl) ?_
  refine z_is (y := (m : Int)) w.2.2.2.2.1 ?_
  refine ab_ishl dX12_layWays_75 ?_
  refine z_top ?_
  refine z_is (y := ((2 ^ m : Nat) : Int)) (shl1 (by omega)) ?_
  refine z_icmp_ge (tgt := 160) dX12_layWays_76 (by decide) (by omega) (by omega) (fun c76 => ?_) (fun c76 => ?_)
  · skip
    refine z_iconst dX12_layWays_160 ?_
    refine z_zret dX12_layWays_161 rfl (Or.inr rfl) ?_
    have e : s = 2 ^ m := by omega
    subst e
    exact K h hF w hI
  · skip
    refine ab_aload_n (k := 0) dX12_layWays_79 rfl rfl ?_
    refine z_getP (b := 224) dX12_layWays_80 fX12_99 rfl rfl rfl ?_
    refine ab_iload_n (k := 1) dX12_layWays_83 rfl rfl ?_
    refine ab_iload_n (k := 1) dX12_layWays_84 rfl rfl ?_
    refine z_if_ne (tgt := 92) dX12_layWays_85 (by decide) (by omega) (fun c85 => ?_) (fun c85 => ?_)
    · skip
      refine z_lconst (v := 0) dX12_layWays_92 (by decide) ?_
      refine z_last dX12_layWays_93 rfl (by omega) (by omega) ?_
      simp only [Int.toNat_natCast]
      refine z_iconst dX12_layWays_94 ?_
      refine ab_istore_n (ls' := [(3, .int (iI 0)), (0, .ref 200), (2, .int (iI (s : Int)))]) dX12_layWays_95 rfl (by decide) rfl ?_
      refine ab_sub (ls' := [(0, .ref 200), (2, .int (iI (s : Int))), (3, .int (iI 0))]) (ks := [1, 2, 0]) rfl ?_
      refine lp_ways3 (by omega) (fun h' a b c => ?_) _ 0 _ rfl (by omega) F9.rf (mwx_w w) (fun t ht => by rw [wv_wp_ne (by omega)]; exact hI t ht) ?_
      · refine z_iinc (k := 1) (v := (s : Int) + 1) (ls' := [(2, .int (iI ((s : Int) + 1))), (0, .ref 200)]) dX12_layWays_154 rfl rfl (by decide) rfl ?_
        refine ab_goto (tgt := 69) dX12_layWays_157 (by decide) ?_
        refine ab_sub (ls' := [(0, .ref 200), (2, .int (iI ((s : Int) + 1)))]) (ks := [1, 0]) rfl ?_
        exact ih _ (by omega) (s + 1) h' rfl (by omega) (hF.tr (F9_w.tr a)) b c
      · rw [wv_wp_s (by decide)]
        unfold wP
        first | rw [if_pos (by omega)]; rfl | rw [if_neg (by omega)]; rfl
    · skip
      refine z_lconst (v := 1) dX12_layWays_88 (by decide) ?_
      refine ab_goto (tgt := 93) dX12_layWays_89 (by decide) ?_
      refine z_last dX12_layWays_93 rfl (by omega) (by omega) ?_
      simp only [Int.toNat_natCast]
      refine z_iconst dX12_layWays_94 ?_
      refine ab_istore_n (ls' := [(3, .int (iI 0)), (0, .ref 200), (2, .int (iI (s : Int)))]) dX12_layWays_95 rfl (by decide) rfl ?_
      refine ab_sub (ls' := [(0, .ref 200), (2, .int (iI (s : Int))), (3, .int (iI 0))]) (ks := [1, 2, 0]) rfl ?_
      refine lp_ways3 (by omega) (fun h' a b c => ?_) _ 0 _ rfl (by omega) F9.rf (mwx_w w) (fun t ht => by rw [wv_wp_ne (by omega)]; exact hI t ht) ?_
      · refine z_iinc (k := 1) (v := (s : Int) + 1) (ls' := [(2, .int (iI ((s : Int) + 1))), (0, .ref 200)]) dX12_layWays_154 rfl rfl (by decide) rfl ?_
        refine ab_goto (tgt := 69) dX12_layWays_157 (by decide) ?_
        refine ab_sub (ls' := [(0, .ref 200), (2, .int (iI ((s : Int) + 1)))]) (ks := [1, 0]) rfl ?_
        exact ih _ (by omega) (s + 1) h' rfl (by omega) (hF.tr (F9_w.tr a)) b c
      · rw [wv_wp_s (by decide)]
        unfold wP
        first | rw [if_pos (by omega)]; rfl | rw [if_neg (by omega)]; rfl
theorem lp_ways1 {d : Nat} {Q : ab_Q} {h0 : ab_H} {g bg : Nat → Bool} {ln cr : Nat → Nat} {n m : Nat} (hx0 : hmx h0 g bg ln n) (cx : CX g bg ln n) (r : CR bg n m cr) (hm : m ≤ 12) (hm0 : zv h0 200 49 = (m : Int)) (K : ∀ h', F9 h0 h' → mwx h' g bg ln cr n m → (∀ t, t < 2 ^ m → wv h' 224 t = (wS g ln cr n m t : Int)) → Q (some (.int (iI 1))) h') : ∀ (nn : Nat) (y : Nat) (c : Nat) (h : ab_H), n - y = nn → (y ≤ n) → (F9 h0 h) → (zv h 200 49 = (m : Int)) → (c = cd bg y) → (∀ k, k < cd bg y → zv h 223 k = cr k) → ab_X (d + 3) mX12_layWays 30 [(0, .ref 200), (1, .int (iI (c : Int))), (2, .int (iI (y : Int)))] [] h Q := by
  intro nn
  induction nn using Nat.strongRecOn with
  | ind nn ih =>
  intro y c h hnn h2 hF h49 hc hI
  have hx := hmx_9 hF hx0
  have hn := hx.2.1
  have hcm := cd_mono (s := bg) h2
  rw [r.1] at hcm
  refine ab_iload_n (k := 2) dX12_layWays_30 rfl rfl ?_
  refine ab_aload_n (k := 0) dX12_layWays_31 rfl rfl ?_
  refine z_getI dX12_layWays_32 fX12_290 rfl (Or.inl rfl) ?_
  refine z_is (y := (n : Int)) hx.1 ?_
  refine z_icmp_ge (tgt := 67) dX12_layWays_35 (by decide) (by omega) (by omega) (fun c35 => ?_) (fun c35 => ?_)
  · skip
    refine z_iconst dX12_layWays_67 ?_
    refine ab_istore_n (ls' := [(2, .int (iI 0)), (0, .ref 200), (1, .int (iI (c : Int)))]) dX12_layWays_68 rfl (by decide) rfl ?_
    refine ab_sub (ls' := [(0, .ref 200), (2, .int (iI 0))]) (ks := [1, 0]) rfl ?_
    have e : y = n := by omega
    subst e
    refine lp_ways2 K _ 0 h rfl (Nat.zero_le _) hF ⟨hx, cx, r, hm, h49, fun k hk => hI k (by rw [r.1]; exact hk)⟩ (fun t ht => absurd ht (by omega))
  · skip
    refine ab_aload_n (k := 0) dX12_layWays_38 rfl rfl ?_
    refine z_getP (b := 211) dX12_layWays_39 fX12_55 rfl rfl rfl ?_
    refine ab_iload_n (k := 2) dX12_layWays_42 rfl rfl ?_
    refine z_iald dX12_layWays_43 rfl (by omega) (by omega) ?_
    simp only [Int.toNat_natCast]
    have b1 := zv_R h 211 y
    refine ab_iload_n (k := 2) dX12_layWays_44 rfl rfl ?_
    refine z_icmp_eq (tgt := 51) dX12_layWays_45 (by decide) (by omega) (by omega) (fun c45 => ?_) (fun c45 => ?_)
    · skip
      refine ab_aload_n (k := 0) dX12_layWays_51 rfl rfl ?_
      refine z_getP (b := 223) dX12_layWays_52 fX12_96 rfl rfl rfl ?_
      refine ab_iload_n (k := 1) dX12_layWays_55 rfl rfl ?_
      refine ab_iload_n (k := 2) dX12_layWays_56 rfl rfl ?_
      have hb : bg y = true := (hx.2.2.2.1 y (by omega)).mpr (by omega)
      have hat := CR_at r (show y < n by omega) hb
      have hcb : (c : Int) < 12 := by omega
      refine z_iast dX12_layWays_57 rfl (by omega) (by omega) ?_
      simp only [Int.toNat_natCast]
      refine z_iinc (k := 1) (v := (c : Int) + 1) (ls' := [(1, .int (iI ((c : Int) + 1))), (0, .ref 200), (2, .int (iI (y : Int)))]) dX12_layWays_58 rfl rfl (by decide) rfl ?_
      refine z_iinc (k := 2) (v := (y : Int) + 1) (ls' := [(2, .int (iI ((y : Int) + 1))), (1, .int (iI ((c : Int) + 1))), (0, .ref 200)]) dX12_layWays_61 rfl rfl (by decide) rfl ?_
      refine ab_goto (tgt := 30) dX12_layWays_64 (by decide) ?_
      refine ab_sub (ls' := [(0, .ref 200), (1, .int (iI ((c : Int) + 1))), (2, .int (iI ((y : Int) + 1)))]) (ks := [2, 1, 0]) rfl ?_
      first
      | (refine ih _ (by omega) (y + 1) (c + 1) _ rfl (by omega) (hF.tr F9_z) (by rw [zv_zp_a (by decide)]; exact h49) (by rw [cd_s, if_pos hb, hc]) (fun k hk => ?_)
         rw [cd_s, if_pos hb] at hk
         by_cases e : k = c
         · subst e; rw [zv_zp_s (by omega), hc, hat.2]
         · rw [zv_zp_ne (by omega)]; exact hI k (by omega))
      | (have hb : ¬ bg y = true := fun q => absurd ((hx.2.2.2.1 y (by omega)).mp q) (by omega)
         have hcd : cd bg (y + 1) = cd bg y := by rw [cd_s, if_neg hb]; rfl
         exact ih _ (by omega) (y + 1) c h rfl (by omega) hF h49 (by rw [hcd]; exact hc) (fun k hk => hI k (by rw [hcd] at hk; exact hk)))
    · skip
      refine ab_goto (tgt := 61) dX12_layWays_48 (by decide) ?_
      refine z_iinc (k := 2) (v := (y : Int) + 1) (ls' := [(2, .int (iI ((y : Int) + 1))), (0, .ref 200), (1, .int (iI (c : Int)))]) dX12_layWays_61 rfl rfl (by decide) rfl ?_
      refine ab_goto (tgt := 30) dX12_layWays_64 (by decide) ?_
      refine ab_sub (ls' := [(0, .ref 200), (1, .int (iI (c : Int))), (2, .int (iI ((y : Int) + 1)))]) (ks := [1, 2, 0]) rfl ?_
      first
      | (refine ih _ (by omega) (y + 1) (c + 1) _ rfl (by omega) (hF.tr F9_z) (by rw [zv_zp_a (by decide)]; exact h49) (by rw [cd_s, if_pos hb, hc]) (fun k hk => ?_)
         rw [cd_s, if_pos hb] at hk
         by_cases e : k = c
         · subst e; rw [zv_zp_s (by omega), hc, hat.2]
         · rw [zv_zp_ne (by omega)]; exact hI k (by omega))
      | (have hb : ¬ bg y = true := fun q => absurd ((hx.2.2.2.1 y (by omega)).mp q) (by omega)
         have hcd : cd bg (y + 1) = cd bg y := by rw [cd_s, if_neg hb]; rfl
         exact ih _ (by omega) (y + 1) c h rfl (by omega) hF h49 (by rw [hcd]; exact hc) (fun k hk => hI k (by rw [hcd] at hk; exact hk)))
theorem c_layWays {d : Nat} {h : ab_H} {Q : ab_Q} {g bg : Nat → Bool} {ln cr : Nat → Nat} {n m : Nat} (hx : hmx h g bg ln n) (cx : CX g bg ln n) (r : CR bg n m cr) (k0 : ¬ (¬ zv h 200 24 = 0 ∧ m ≤ 12) → Q (some (.int (iI 0))) (zp h 200 49 (m : Int))) (k1 : ¬ zv h 200 24 = 0 → m ≤ 12 → ∀ h', F9 h h' → mwx h' g bg ln cr n m → (∀ t, t < 2 ^ m → wv h' 224 t = (wS g ln cr n m t : Int)) → Q (some (.int (iI 1))) h') : ab_X (d + 3) mX12_layWays 0 (lv_args 0 [.ref 200]) [] h Q := by
  show ab_X (d + 3) mX12_layWays 0 [(0, .ref 200)] [] h Q
  have hn := hx.2.1
  have hmn : m ≤ n := by rw [← r.1]; exact cd_le _ _
  have hF1 : F9 h (zp h 200 49 (m : Int)) := ⟨sm_zp (by decide), fun j hj => zv_zp_ne (by omega)⟩
  refine ab_aload_n (k := 0) dX12_layWays_0 rfl rfl ?_
  refine ab_aload_n (k := 0) dX12_layWays_1 rfl rfl ?_
  refine ab_callV (As := []) (rest := [.ref 200]) dX12_layWays_2 lX12_339 rfl (Nat.le_of_ble_eq_true rfl) (Nat.le_of_ble_eq_true rfl) rfl ?_
  refine c_carMany (n := n) hx.1 hn ?_
  rw [show (cB (zv h 211) n : Int) = (m : Int) by rw [cB_cd (bg := bg) (fun y hy => hx.2.2.2.1 y (by omega)), r.1]]
  show ab_X (d + 3) mX12_layWays 5 [(0, .ref 200)] [.int (iI (m : Int)), .ref 200] h _
  refine z_putI dX12_layWays_5 fX12_422 rfl rfl ?_
  refine ab_aload_n (k := 0) dX12_layWays_8 rfl rfl ?_
  refine z_getI dX12_layWays_9 fX12_284 rfl (Or.inl rfl) ?_
  refine z_is (y := zv h 200 24) (zv_zp_ne (by decide)) ?_
  have b1 := zv_R h 200 24
  refine z_if_eq (tgt := 24) dX12_layWays_12 (by decide) (by omega) (fun c12 => ?_) (fun c12 => ?_)
  · skip
    refine z_iconst dX12_layWays_24 ?_
    refine z_zret dX12_layWays_25 rfl (Or.inl rfl) ?_
    exact k0 (by omega)
  · skip
    refine ab_aload_n (k := 0) dX12_layWays_15 rfl rfl ?_
    refine z_getI dX12_layWays_16 fX12_422 rfl (Or.inl rfl) ?_
    refine z_is (y := (m : Int)) (zv_zp_s (by omega)) ?_
    refine z_bipush dX12_layWays_19 (by decide) ?_
    refine z_icmp_le (tgt := 26) dX12_layWays_21 (by decide) (by omega) (by decide) (fun c21 => ?_) (fun c21 => ?_)
    · skip
      refine z_iconst dX12_layWays_26 ?_
      refine ab_istore_n (ls' := [(1, .int (iI 0)), (0, .ref 200)]) dX12_layWays_27 rfl (by decide) rfl ?_
      refine z_iconst dX12_layWays_28 ?_
      refine ab_istore_n (ls' := [(2, .int (iI 0)), (1, .int (iI 0)), (0, .ref 200)]) dX12_layWays_29 rfl (by decide) rfl ?_
      refine ab_sub (ls' := [(0, .ref 200), (1, .int (iI 0)), (2, .int (iI 0))]) (ks := [2, 1, 0]) rfl ?_
      exact lp_ways1 (hmx_9 hF1 hx) cx r (by omega) (zv_zp_s (by omega)) (fun h' a b c => k1 (by omega) (by omega) h' (hF1.tr a) b c) _ 0 0 _ rfl (by omega) F9.rf (zv_zp_s (by omega)) rfl (fun k hk => absurd hk (Nat.not_lt_zero k))
    · skip
      refine z_iconst dX12_layWays_24 ?_
      refine z_zret dX12_layWays_25 rfl (Or.inl rfl) ?_
      exact k0 (by omega)
theorem c_mcame {d : Nat} {h : ab_H} {Q : ab_Q} {h9 : ab_H} {g bg : Nat → Bool} {ln cr : Nat → Nat} {n m : Nat} (e9 : zp h 200 0 0 = h9) (hx : hmx h9 g bg ln n) (cx : CX g bg ln n) (r : CR bg n m cr) (k0 : ¬ (¬ zv h9 200 24 = 0 ∧ m ≤ 12) → ∀ h', F9 h9 h' → Q (some (.long (lL (-1)))) h') (k1 : ¬ zv h9 200 24 = 0 → m ≤ 12 → ∀ h', F9 h9 h' → Q (some (.long (lL ((WW g ln cr n m 0 m : Nat) : Int)))) h') : ab_X (d + 4) mX12_came 0 (lv_args 0 [.ref 200]) [] h Q := by
  show ab_X (d + 4) mX12_came 0 [(0, .ref 200)] [] h Q
  refine ab_aload_n (k := 0) dX12_came_0 rfl rfl ?_
  refine z_iconst dX12_came_1 ?_
  refine z_putI dX12_came_2 fX12_111 rfl rfl ?_
  rw [e9]
  refine ab_aload_n (k := 0) dX12_came_5 rfl rfl ?_
  refine ab_callV (As := []) (rest := []) dX12_came_6 lX12_431 rfl (Nat.le_of_ble_eq_true rfl) (Nat.le_of_ble_eq_true rfl) rfl ?_
  refine c_layWays hx cx r (fun gl => ?_) (fun gl gm h1 hF1 w hI => ?_)
  · skip
    have hF1 : F9 h9 (zp h9 200 49 (m : Int)) := ⟨sm_zp (by decide), fun j hj => zv_zp_ne (by omega)⟩
    show ab_X (d + 4) mX12_came 9 [(0, .ref 200)] [.int (iI 0)] (zp h9 200 49 (m : Int)) _
    refine z_if_eq (tgt := 28) dX12_came_9 (by decide) (by decide) (fun _ => ?_) (fun c9 => absurd c9 (by decide))
    refine z_ldc2 (v := (-1)) dX12_came_28 qX12_386 (by decide) ?_
    refine z_lret dX12_came_31 rfl ?_
    first | exact k0 gl _ hF1 | exact k1 gl gm h1 hF1
  · skip
    have hp := pow12 gm
    have hp1 : 0 < 2 ^ m := Nat.pow_pos (by omega)
    show ab_X (d + 4) mX12_came 9 [(0, .ref 200)] [.int (iI 1)] h1 _
    refine z_if_eq (tgt := 28) dX12_came_9 (by decide) (by decide) (fun c9 => absurd c9 (by decide)) (fun _ => ?_)
    refine ab_aload_n (k := 0) dX12_came_12 rfl rfl ?_
    refine z_getP (b := 224) dX12_came_13 fX12_99 rfl rfl rfl ?_
    refine z_iconst dX12_came_16 ?_
    refine ab_aload_n (k := 0) dX12_came_17 rfl rfl ?_
    refine z_getI dX12_came_18 fX12_422 rfl (Or.inl rfl) ?_
    refine z_is (y := (m : Int)) w.2.2.2.2.1 ?_
    refine ab_ishl dX12_came_21 ?_
    refine z_top ?_
    refine z_is (y := ((2 ^ m : Nat) : Int)) (shl1 (by omega)) ?_
    refine z_iconst dX12_came_22 ?_
    refine z_isub dX12_came_23 ?_
    refine z_is (y := ((2 ^ m - 1 : Nat) : Int)) (by omega) ?_
    refine z_lald dX12_came_24 rfl (by omega) (by omega) ?_
    simp only [Int.toNat_natCast]
    refine z_isl (y := ((WW g ln cr n m 0 m : Nat) : Int)) ((hI _ (by omega)).trans (congrArg _ wS_all)) ?_
    refine ab_goto (tgt := 31) dX12_came_25 (by decide) ?_
    refine z_lret dX12_came_31 rfl ?_
    first | exact k0 gl _ hF1 | exact k1 gl gm h1 hF1
theorem lp_mlast {d : Nat} {Q : ab_Q} {h0 : ab_H} {g bg : Nat → Bool} {ln cr : Nat → Nat} {n m : Nat} {a : Nat} (w : mwx h0 g bg ln cr n m) (hI : ∀ t, t < 2 ^ m → wv h0 224 t = (wS g ln cr n m t : Int)) (ha : a = 2 ^ m - 1) (K : ∀ B : Nat, (∀ z, B.testBit z = true ↔ bg z = true ∧ z < n ∧ QL g bg ln cr n m (cd bg z)) → Q (some (.int (iI (B : Int)))) h0) : ∀ (nn : Nat) (k : Nat) (B : Nat) (h : ab_H), m - k = nn → (h = h0) → (k ≤ m) → (B < 1048576) → (∀ z, B.testBit z = true ↔ bg z = true ∧ z < n ∧ cd bg z < k ∧ QL g bg ln cr n m (cd bg z)) → ab_X (d + 3) mX12_last 27 [(0, .ref 200), (1, .int (iI (B : Int))), (2, .int (iI (a : Int))), (3, .int (iI (k : Int)))] [] h Q := by
  intro nn
  induction nn using Nat.strongRecOn with
  | ind nn ih =>
  intro k B h hnn hh h2 hBb hBt
  subst hh
  have hm := w.2.2.2.1
  have hp := pow12 hm
  have hp1 : 0 < 2 ^ m := Nat.pow_pos (by omega)
  have r := w.2.2.1
  have hn := w.1.2.1
  have hta : tb a = ivl 0 m := by rw [ha]; exact tb_all
  refine ab_iload_n (k := 3) dX12_last_27 rfl rfl ?_
  refine ab_aload_n (k := 0) dX12_last_28 rfl rfl ?_
  refine z_getI dX12_last_29 fX12_422 rfl (Or.inl rfl) ?_
  refine z_is (y := (m : Int)) w.2.2.2.2.1 ?_
  refine z_icmp_ge (tgt := 88) dX12_last_32 (by decide) (by omega) (by omega) (fun c32 => ?_) (fun c32 => ?_)
  · skip
    refine ab_iload_n (k := 1) dX12_last_88 rfl rfl ?_
    refine z_iret dX12_last_89 rfl ?_
    have e : k = m := by omega
    subst e
    exact K B (fun z => (hBt z).trans ⟨fun q => ⟨q.1, q.2.1, q.2.2.2⟩, fun q => ⟨q.1, q.2.1, (CR_at r q.2.1 q.1).1, q.2.2⟩⟩)
  · skip
    have rk := r.2 k (by omega)
    have gh : tb a k = true := by rw [hta]; exact ivl_iff.mpr (by omega)
    have hlt := tb_lt (show a < 4096 by omega) (show k < 12 by omega) gh
    have hws : wS g ln cr n m (a - 2 ^ k) = wy (lwF g cr) (rwF g ln n cr) (tcF ln m cr) m (m - 1) (dl (ivl 0 m) k) := by
      unfold wS
      have h1 := tb_dl (show a < 4096 by omega) (show k < 12 by omega) gh
      have h2 := cd_dl m (show k < m by omega) gh
      rw [hta, cd_ivl (by omega)] at h2
      rw [h1, hta, show cd (dl (ivl 0 m) k) m = m - 1 by omega]
    have hwb := wS_b (g := g) (ln := ln) (cr := cr) (n := n) (m := m) (s := a - 2 ^ k) hm
    refine ab_iload_n (k := 1) dX12_last_35 rfl rfl ?_
    refine ab_aload_n (k := 0) dX12_last_36 rfl rfl ?_
    refine ab_iload_n (k := 3) dX12_last_37 rfl rfl ?_
    refine ab_iload_n (k := 2) dX12_last_38 rfl rfl ?_
    refine z_iconst dX12_last_39 ?_
    refine ab_iload_n (k := 3) dX12_last_40 rfl rfl ?_
    refine ab_ishl dX12_last_41 ?_
    refine z_top ?_
    refine z_is (y := ((2 ^ k : Nat) : Int)) (shl1 (by omega)) ?_
    refine z_iconst dX12_last_42 ?_
    refine ab_ixor dX12_last_43 ?_
    refine z_top ?_
    have b1 := inR_of ((iI ((2 ^ k : Nat) : Int)) ^^^ (iI (-1)))
    refine ab_iand dX12_last_44 ?_
    refine z_top ?_
    refine z_is (y := ((a - 2 ^ k : Nat) : Int)) (clrN (by omega) (by omega) gh) ?_
    refine ab_callV (As := [.int (iI (k : Int)), .int (iI ((a - 2 ^ k : Nat) : Int))]) (rest := [.int (iI (B : Int))]) dX12_last_45 lX12_428 rfl (Nat.le_of_ble_eq_true rfl) (Nat.le_of_ble_eq_true rfl) rfl ?_
    refine c_couldCome w (by omega) (by omega) (fun gc => ?_) (fun gc => ?_)
    · skip
      rw [tb_dl (show a < 4096 by omega) (show k < 12 by omega) gh, hta] at gc
      show ab_X (d + 3) mX12_last 48 [(0, .ref 200), (1, .int (iI (B : Int))), (2, .int (iI (a : Int))), (3, .int (iI (k : Int)))] [.int (iI 1), .int (iI (B : Int))] h _
      refine z_if_eq (tgt := 79) dX12_last_48 (by decide) (by decide) (fun c48 => absurd c48 (by decide)) (fun _ => ?_)
      refine ab_aload_n (k := 0) dX12_last_51 rfl rfl ?_
      refine z_getP (b := 224) dX12_last_52 fX12_99 rfl rfl rfl ?_
      refine ab_iload_n (k := 2) dX12_last_55 rfl rfl ?_
      refine z_iconst dX12_last_56 ?_
      refine ab_iload_n (k := 3) dX12_last_57 rfl rfl ?_
      refine ab_ishl dX12_last_58 ?_
      refine z_top ?_
      refine z_is (y := ((2 ^ k : Nat) : Int)) (shl1 (by omega)) ?_
      refine z_iconst dX12_last_59 ?_
      refine ab_ixor dX12_last_60 ?_
      refine z_top ?_
      have b2 := inR_of ((iI ((2 ^ k : Nat) : Int)) ^^^ (iI (-1)))
      refine ab_iand dX12_last_61 ?_
      refine z_top ?_
      refine z_is (y := ((a - 2 ^ k : Nat) : Int)) (clrN (by omega) (by omega) gh) ?_
      refine z_lald dX12_last_62 rfl (by omega) (by omega) ?_
      simp only [Int.toNat_natCast]
      refine z_isl (y := (wS g ln cr n m (a - 2 ^ k) : Int)) (hI _ (by omega)) ?_
      refine z_lconst (v := 0) dX12_last_63 (by decide) ?_
      refine z_lcmp dX12_last_64 (by omega) (by omega) (fun c64 => ?_) (fun c64 => ?_) (fun c64 => ?_)
      · skip
        refine z_if_le (tgt := 79) dX12_last_65 (by decide) (by decide) (fun c65 => absurd c65 (by decide)) (fun _ => ?_)
        refine z_iconst dX12_last_68 ?_
        refine ab_aload_n (k := 0) dX12_last_69 rfl rfl ?_
        refine z_getP (b := 223) dX12_last_70 fX12_96 rfl rfl rfl ?_
        refine ab_iload_n (k := 3) dX12_last_73 rfl rfl ?_
        refine z_iald dX12_last_74 rfl (by omega) (by omega) ?_
        simp only [Int.toNat_natCast]
        refine z_is (y := (cr k : Int)) (w.2.2.2.2.2 k (by omega)) ?_
        refine ab_ishl dX12_last_75 ?_
        refine z_top ?_
        refine z_is (y := ((2 ^ cr k : Nat) : Int)) (shl1 (by omega)) ?_
        refine ab_goto (tgt := 80) dX12_last_76 (by decide) ?_
        refine ab_ior dX12_last_80 ?_
        refine z_top ?_
        refine z_is (y := ((B ||| 2 ^ cr k : Nat) : Int)) (orN hBb (p20 (by omega))) ?_
        refine ab_istore_n (ls' := [(1, .int (iI ((B ||| 2 ^ cr k : Nat) : Int))), (0, .ref 200), (2, .int (iI (a : Int))), (3, .int (iI (k : Int)))]) dX12_last_81 rfl (by decide) rfl ?_
        refine z_iinc (k := 3) (v := (k : Int) + 1) (ls' := [(3, .int (iI ((k : Int) + 1))), (1, .int (iI ((B ||| 2 ^ cr k : Nat) : Int))), (0, .ref 200), (2, .int (iI (a : Int)))]) dX12_last_82 rfl rfl (by decide) rfl ?_
        refine ab_goto (tgt := 27) dX12_last_85 (by decide) ?_
        refine ab_sub (ls' := [(0, .ref 200), (1, .int (iI ((B ||| 2 ^ cr k : Nat) : Int))), (2, .int (iI (a : Int))), (3, .int (iI ((k : Int) + 1)))]) (ks := [2, 1, 3, 0]) rfl ?_
        first
        | (refine ih _ (by omega) (k + 1) (B ||| 2 ^ cr k) h rfl rfl (by omega) (or20 hBb (p20 (by omega))) (fun z => ?_)
           have hQ : QL g bg ln cr n m k := ⟨gc, by rw [← hws]; omega⟩
           rw [orB, Bool.or_eq_true, hBt z, bit1]
           constructor
           · rintro (q | q)
             · exact ⟨q.1, q.2.1, by omega, q.2.2.2⟩
             · rw [q, rk.2.2]; exact ⟨rk.2.1, rk.1, by omega, hQ⟩
           · intro q
             by_cases e : cd bg z = k
             · right; rw [← e]; exact (CR_at r q.2.1 q.1).2.symm
             · exact Or.inl ⟨q.1, q.2.1, by omega, q.2.2.2⟩)
        | (refine ih _ (by omega) (k + 1) B h rfl rfl (by omega) hBb (fun z => ?_)
           have hQ : ¬ QL g bg ln cr n m k := fun q => by
             have q2 := q.2
             rw [← hws] at q2
             first | exact gc q.1 | omega
           rw [hBt z]
           constructor
           · intro q; exact ⟨q.1, q.2.1, by omega, q.2.2.2⟩
           · intro q
             refine ⟨q.1, q.2.1, ?_, q.2.2.2⟩
             rcases Nat.lt_or_ge (cd bg z) k with t | t
             · exact t
             · exact absurd (show QL g bg ln cr n m k by rw [show k = cd bg z by omega]; exact q.2.2.2) hQ)
      · skip
        refine z_if_le (tgt := 79) dX12_last_65 (by decide) (by decide) (fun _ => ?_) (fun c65 => absurd c65 (by decide))
        refine z_iconst dX12_last_79 ?_
        refine ab_ior dX12_last_80 ?_
        refine z_top ?_
        refine z_is (y := (B : Int)) (by have := orN (x := B) (y := 0) hBb (by decide); rw [Nat.or_zero] at this; exact this) ?_
        refine ab_istore_n (ls' := [(1, .int (iI (B : Int))), (0, .ref 200), (2, .int (iI (a : Int))), (3, .int (iI (k : Int)))]) dX12_last_81 rfl (by decide) rfl ?_
        refine z_iinc (k := 3) (v := (k : Int) + 1) (ls' := [(3, .int (iI ((k : Int) + 1))), (1, .int (iI (B : Int))), (0, .ref 200), (2, .int (iI (a : Int)))]) dX12_last_82 rfl rfl (by decide) rfl ?_
        refine ab_goto (tgt := 27) dX12_last_85 (by decide) ?_
        refine ab_sub (ls' := [(0, .ref 200), (1, .int (iI (B : Int))), (2, .int (iI (a : Int))), (3, .int (iI ((k : Int) + 1)))]) (ks := [2, 1, 3, 0]) rfl ?_
        first
        | (refine ih _ (by omega) (k + 1) (B ||| 2 ^ cr k) h rfl rfl (by omega) (or20 hBb (p20 (by omega))) (fun z => ?_)
           have hQ : QL g bg ln cr n m k := ⟨gc, by rw [← hws]; omega⟩
           rw [orB, Bool.or_eq_true, hBt z, bit1]
           constructor
           · rintro (q | q)
             · exact ⟨q.1, q.2.1, by omega, q.2.2.2⟩
             · rw [q, rk.2.2]; exact ⟨rk.2.1, rk.1, by omega, hQ⟩
           · intro q
             by_cases e : cd bg z = k
             · right; rw [← e]; exact (CR_at r q.2.1 q.1).2.symm
             · exact Or.inl ⟨q.1, q.2.1, by omega, q.2.2.2⟩)
        | (refine ih _ (by omega) (k + 1) B h rfl rfl (by omega) hBb (fun z => ?_)
           have hQ : ¬ QL g bg ln cr n m k := fun q => by
             have q2 := q.2
             rw [← hws] at q2
             first | exact gc q.1 | omega
           rw [hBt z]
           constructor
           · intro q; exact ⟨q.1, q.2.1, by omega, q.2.2.2⟩
           · intro q
             refine ⟨q.1, q.2.1, ?_, q.2.2.2⟩
             rcases Nat.lt_or_ge (cd bg z) k with t | t
             · exact t
             · exact absurd (show QL g bg ln cr n m k by rw [show k = cd bg z by omega]; exact q.2.2.2) hQ)
      · skip
        refine z_if_le (tgt := 79) dX12_last_65 (by decide) (by decide) (fun _ => ?_) (fun c65 => absurd c65 (by decide))
        refine z_iconst dX12_last_79 ?_
        refine ab_ior dX12_last_80 ?_
        refine z_top ?_
        refine z_is (y := (B : Int)) (by have := orN (x := B) (y := 0) hBb (by decide); rw [Nat.or_zero] at this; exact this) ?_
        refine ab_istore_n (ls' := [(1, .int (iI (B : Int))), (0, .ref 200), (2, .int (iI (a : Int))), (3, .int (iI (k : Int)))]) dX12_last_81 rfl (by decide) rfl ?_
        refine z_iinc (k := 3) (v := (k : Int) + 1) (ls' := [(3, .int (iI ((k : Int) + 1))), (1, .int (iI (B : Int))), (0, .ref 200), (2, .int (iI (a : Int)))]) dX12_last_82 rfl rfl (by decide) rfl ?_
        refine ab_goto (tgt := 27) dX12_last_85 (by decide) ?_
        refine ab_sub (ls' := [(0, .ref 200), (1, .int (iI (B : Int))), (2, .int (iI (a : Int))), (3, .int (iI ((k : Int) + 1)))]) (ks := [2, 1, 3, 0]) rfl ?_
        first
        | (refine ih _ (by omega) (k + 1) (B ||| 2 ^ cr k) h rfl rfl (by omega) (or20 hBb (p20 (by omega))) (fun z => ?_)
           have hQ : QL g bg ln cr n m k := ⟨gc, by rw [← hws]; omega⟩
           rw [orB, Bool.or_eq_true, hBt z, bit1]
           constructor
           · rintro (q | q)
             · exact ⟨q.1, q.2.1, by omega, q.2.2.2⟩
             · rw [q, rk.2.2]; exact ⟨rk.2.1, rk.1, by omega, hQ⟩
           · intro q
             by_cases e : cd bg z = k
             · right; rw [← e]; exact (CR_at r q.2.1 q.1).2.symm
             · exact Or.inl ⟨q.1, q.2.1, by omega, q.2.2.2⟩)
        | (refine ih _ (by omega) (k + 1) B h rfl rfl (by omega) hBb (fun z => ?_)
           have hQ : ¬ QL g bg ln cr n m k := fun q => by
             have q2 := q.2
             rw [← hws] at q2
             first | exact gc q.1 | omega
           rw [hBt z]
           constructor
           · intro q; exact ⟨q.1, q.2.1, by omega, q.2.2.2⟩
           · intro q
             refine ⟨q.1, q.2.1, ?_, q.2.2.2⟩
             rcases Nat.lt_or_ge (cd bg z) k with t | t
             · exact t
             · exact absurd (show QL g bg ln cr n m k by rw [show k = cd bg z by omega]; exact q.2.2.2) hQ)
    · skip
      rw [tb_dl (show a < 4096 by omega) (show k < 12 by omega) gh, hta] at gc
      show ab_X (d + 3) mX12_last 48 [(0, .ref 200), (1, .int (iI (B : Int))), (2, .int (iI (a : Int))), (3, .int (iI (k : Int)))] [.int (iI 0), .int (iI (B : Int))] h _
      refine z_if_eq (tgt := 79) dX12_last_48 (by decide) (by decide) (fun _ => ?_) (fun c48 => absurd c48 (by decide))
      refine z_iconst dX12_last_79 ?_
      refine ab_ior dX12_last_80 ?_
      refine z_top ?_
      refine z_is (y := (B : Int)) (by have := orN (x := B) (y := 0) hBb (by decide); rw [Nat.or_zero] at this; exact this) ?_
      refine ab_istore_n (ls' := [(1, .int (iI (B : Int))), (0, .ref 200), (2, .int (iI (a : Int))), (3, .int (iI (k : Int)))]) dX12_last_81 rfl (by decide) rfl ?_
      refine z_iinc (k := 3) (v := (k : Int) + 1) (ls' := [(3, .int (iI ((k : Int) + 1))), (1, .int (iI (B : Int))), (0, .ref 200), (2, .int (iI (a : Int)))]) dX12_last_82 rfl rfl (by decide) rfl ?_
      refine ab_goto (tgt := 27) dX12_last_85 (by decide) ?_
      refine ab_sub (ls' := [(0, .ref 200), (1, .int (iI (B : Int))), (2, .int (iI (a : Int))), (3, .int (iI ((k : Int) + 1)))]) (ks := [2, 1, 3, 0]) rfl ?_
      first
      | (refine ih _ (by omega) (k + 1) (B ||| 2 ^ cr k) h rfl rfl (by omega) (or20 hBb (p20 (by omega))) (fun z => ?_)
         have hQ : QL g bg ln cr n m k := ⟨gc, by rw [← hws]; omega⟩
         rw [orB, Bool.or_eq_true, hBt z, bit1]
         constructor
         · rintro (q | q)
           · exact ⟨q.1, q.2.1, by omega, q.2.2.2⟩
           · rw [q, rk.2.2]; exact ⟨rk.2.1, rk.1, by omega, hQ⟩
         · intro q
           by_cases e : cd bg z = k
           · right; rw [← e]; exact (CR_at r q.2.1 q.1).2.symm
           · exact Or.inl ⟨q.1, q.2.1, by omega, q.2.2.2⟩)
      | (refine ih _ (by omega) (k + 1) B h rfl rfl (by omega) hBb (fun z => ?_)
         have hQ : ¬ QL g bg ln cr n m k := fun q => by
           have q2 := q.2
           rw [← hws] at q2
           first | exact gc q.1 | omega
         rw [hBt z]
         constructor
         · intro q; exact ⟨q.1, q.2.1, by omega, q.2.2.2⟩
         · intro q
           refine ⟨q.1, q.2.1, ?_, q.2.2.2⟩
           rcases Nat.lt_or_ge (cd bg z) k with t | t
           · exact t
           · exact absurd (show QL g bg ln cr n m k by rw [show k = cd bg z by omega]; exact q.2.2.2) hQ)
theorem c_mlast {d : Nat} {h : ab_H} {Q : ab_Q} {h9 : ab_H} {g bg : Nat → Bool} {ln cr : Nat → Nat} {n m : Nat} (e9 : zp h 200 0 0 = h9) (hx : hmx h9 g bg ln n) (cx : CX g bg ln n) (r : CR bg n m cr) (k0 : ¬ (¬ zv h9 200 24 = 0 ∧ m ≤ 12) → ∀ h', F9 h9 h' → Q (some (.int (iI (-1)))) h') (k1 : ¬ zv h9 200 24 = 0 → m ≤ 12 → ∀ h' (B : Nat), F9 h9 h' → (∀ z, B.testBit z = true ↔ bg z = true ∧ z < n ∧ QL g bg ln cr n m (cd bg z)) → Q (some (.int (iI (B : Int)))) h') : ab_X (d + 4) mX12_last 0 (lv_args 0 [.ref 200]) [] h Q := by
  show ab_X (d + 4) mX12_last 0 [(0, .ref 200)] [] h Q
  refine ab_aload_n (k := 0) dX12_last_0 rfl rfl ?_
  refine z_iconst dX12_last_1 ?_
  refine z_putI dX12_last_2 fX12_111 rfl rfl ?_
  rw [e9]
  refine ab_aload_n (k := 0) dX12_last_5 rfl rfl ?_
  refine ab_callV (As := []) (rest := []) dX12_last_6 lX12_431 rfl (Nat.le_of_ble_eq_true rfl) (Nat.le_of_ble_eq_true rfl) rfl ?_
  refine c_layWays hx cx r (fun gl => ?_) (fun gl gm h1 hF1 w hI => ?_)
  · skip
    have hF1 : F9 h9 (zp h9 200 49 (m : Int)) := ⟨sm_zp (by decide), fun j hj => zv_zp_ne (by omega)⟩
    show ab_X (d + 4) mX12_last 9 [(0, .ref 200)] [.int (iI 0)] (zp h9 200 49 (m : Int)) _
    refine z_if_ne (tgt := 14) dX12_last_9 (by decide) (by decide) (fun c9 => absurd c9 (by decide)) (fun _ => ?_)
    refine z_iconst dX12_last_12 ?_
    refine z_iret dX12_last_13 rfl ?_
    exact k0 gl _ hF1
  · skip
    have hp := pow12 gm
    have hp1 : 0 < 2 ^ m := Nat.pow_pos (by omega)
    show ab_X (d + 4) mX12_last 9 [(0, .ref 200)] [.int (iI 1)] h1 _
    refine z_if_ne (tgt := 14) dX12_last_9 (by decide) (by decide) (fun _ => ?_) (fun c9 => absurd c9 (by decide))
    refine z_iconst dX12_last_14 ?_
    refine ab_istore_n (ls' := [(1, .int (iI 0)), (0, .ref 200)]) dX12_last_15 rfl (by decide) rfl ?_
    refine z_iconst dX12_last_16 ?_
    refine ab_aload_n (k := 1) dX12_last_17 rfl rfl ?_
    refine z_getI dX12_last_18 fX12_422 rfl (Or.inl rfl) ?_
    refine z_is (y := (m : Int)) w.2.2.2.2.1 ?_
    refine ab_ishl dX12_last_21 ?_
    refine z_top ?_
    refine z_is (y := ((2 ^ m : Nat) : Int)) (shl1 (by omega)) ?_
    refine z_iconst dX12_last_22 ?_
    refine z_isub dX12_last_23 ?_
    refine z_is (y := ((2 ^ m - 1 : Nat) : Int)) (by omega) ?_
    refine ab_istore_n (ls' := [(2, .int (iI ((2 ^ m - 1 : Nat) : Int))), (1, .int (iI 0)), (0, .ref 200)]) dX12_last_24 rfl (by decide) rfl ?_
    refine z_iconst dX12_last_25 ?_
    refine ab_istore_n (ls' := [(3, .int (iI 0)), (2, .int (iI ((2 ^ m - 1 : Nat) : Int))), (1, .int (iI 0)), (0, .ref 200)]) dX12_last_26 rfl (by decide) rfl ?_
    refine ab_sub (ls' := [(0, .ref 200), (1, .int (iI 0)), (2, .int (iI ((2 ^ m - 1 : Nat) : Int))), (3, .int (iI 0))]) (ks := [3, 2, 1, 0]) rfl ?_
    refine lp_mlast (d := d + 1) (a := 2 ^ m - 1) w hI rfl (fun B hB => k1 gl gm h1 B hF1 hB) _ 0 0 h1 rfl rfl (by omega) (by decide) (fun z => ⟨fun q => absurd q (by rw [Nat.zero_testBit]; decide), fun q => absurd q.2.2.1 (Nat.not_lt_zero _)⟩)
