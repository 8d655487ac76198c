/-! TEXT of the model, from its entry -/
theorem F12_0 {h h8 : ab_H} (e : zp h 200 0 0 = h8) (h0 : zv h 200 0 = 0) : F12 h h8 ∧ F11 h h8 := by
  subst e
  have k : ∀ j, zv (zp h 200 0 0) 200 j = zv h 200 j := fun j => by
    by_cases q : j = 0
    · subst q; rw [zv_zp_s (by decide), h0]
    · rw [zv_zp_ne (by omega)]
  exact ⟨⟨fun a j q _ _ _ => zv_zp_a q, fun j _ _ _ _ _ => k j⟩, ⟨fun a j q => zv_zp_a q, fun j _ _ => k j⟩⟩
theorem c_mtext0 {d : Nat} {h : ab_H} {Q : ab_Q} {h9 : ab_H} {T : Nat → Int} {z : Nat}  (e9 : zp h 200 0 0 = h9) (ht : tx T z) (hz1 : zv h9 200 6 = (z : Int)) (hT : ∀ i, i < z → zv h9 201 i = sby (T i)) (k0 : ∀ h' w, (kRu T z).1 = w → ¬ w = -1 → F12 h9 h' → Q (some (.int (iI (-1)))) h') (k1 : ∀ h1 h' S, kRu T z = (-1, S) → F12 h9 h1 → tK h1 h' S → kOK S → Q (some (.int (iI ((S.2.2.1.length : Nat) : Int)))) h') : ab_X (d + 11) mX12_text 0 (lv_args 0 [.ref 200, .int (iI 0)]) [] h Q := by
  show ab_X (d + 11) mX12_text 0 [(0, .ref 200), (1, .int (iI 0))] [] h Q
  refine ab_aload_n (k := 0) dX12_text_0 rfl rfl ?_
  refine z_iconst dX12_text_1 ?_
  refine z_putI dX12_text_2 fX12_111 rfl rfl ?_
  rw [e9]
  refine ab_iload_n (k := 1) dX12_text_5 rfl rfl ?_
  refine z_i2l dX12_text_6 (by decide) ?_
  refine z_lconst (v := 0) dX12_text_7 (by decide) ?_
  refine z_lconst (v := 1) dX12_text_8 (by decide) ?_
  refine ab_callS (As := [.long (lL 0), .long (lL 0), .long (lL 1)]) (rest := []) dX12_text_9 lX12_232 (Nat.le_of_ble_eq_true rfl) (Nat.le_of_ble_eq_true rfl) rfl ?_
  refine c_isIn (by decide) (by decide) (by decide) (fun gi => ?_) (fun gi => ?_)
  · skip
    show ab_X (d + 11) mX12_text 12 [(0, .ref 200), (1, .int (iI 0))] [.int (iI 1)] h9 _
    refine z_if_eq (tgt := 37) dX12_text_12 (by decide) (by decide) (fun c12 => absurd c12 (by decide)) (fun _ => ?_)
    refine ab_iload_n (k := 1) dX12_text_15 rfl rfl ?_
    refine z_iconst dX12_text_16 ?_
    refine z_icmp_ne (tgt := 28) dX12_text_17 (by decide) (by decide) (by decide) (fun _ => ?_) (fun c17 => absurd c17 (by decide))
    refine ab_aload_n (k := 0) dX12_text_28 rfl rfl ?_
    refine ab_iload_n (k := 1) dX12_text_29 rfl rfl ?_
    refine ab_callV (As := [.int (iI 0)]) (rest := []) dX12_text_30 lX12_282 rfl (Nat.le_of_ble_eq_true rfl) (Nat.le_of_ble_eq_true rfl) rfl ?_
    obtain ⟨h8, e8⟩ : ∃ x : ab_H, zp h9 200 0 0 = x := ⟨_, rfl⟩
    have h90 : zv h9 200 0 = 0 := by rw [← e9, zv_zp_s (by decide)]
    have f8 := F12_0 e8 h90
    refine c_mfault0 (T := T) (z := z) e8 ht ((f8.2.2 6 (by omega) (by omega)).trans hz1) (fun i hi => (f8.2.1 201 i (by decide)).trans (hT i hi)) (fun l30 S30 j30 F30 C30 k30 u30 => ?_) (fun e30 w30 j30 n30 F30 u30 => ?_)
    · skip
      show ab_X (d + 11) mX12_text 33 [(0, .ref 200), (1, .int (iI 0))] [.int (iI (-1))] l30 _
      refine z_iconst dX12_text_33 ?_
      refine z_icmp_eq (tgt := 39) dX12_text_34 (by decide) (by decide) (by decide) (fun _ => ?_) (fun c34 => absurd c34 (by decide))
      refine ab_sub (ls' := [(0, .ref 200), (1, .int (iI 0))]) (ks := [0, 1]) rfl ?_
      exact c_mtext0b (z := 0) C30 k30 (fun h' q => k1 _ _ _ j30 (f8.1.tr F30) q k30)
    · skip
      have wR := zv_R e30 200 11
      rw [u30] at wR
      show ab_X (d + 11) mX12_text 33 [(0, .ref 200), (1, .int (iI 0))] [.int (iI w30)] e30 _
      refine z_iconst dX12_text_33 ?_
      refine z_icmp_eq (tgt := 39) dX12_text_34 (by decide) (by omega) (by decide) (fun c34 => absurd c34 (by omega)) (fun c34 => ?_)
      refine z_iconst dX12_text_37 ?_
      refine z_iret dX12_text_38 rfl ?_
      exact k0 _ _ j30 n30 (f8.1.tr F30)
  · skip
    exfalso; omega
/-- the model has put a rule by -/
def tR (h h' : ab_H) (k z : Nat) : Prop := (∀ a j, a ≠ 200 → a ≠ 202 → a ≠ 203 → zv h' a j = zv h a j) ∧ (∀ j, ¬ (6 ≤ j ∧ j ≤ 14) → ¬ j = 17 → zv h' 200 j = zv h 200 j) ∧ zv h' 200 6 = 0 ∧ zv h' 200 7 = (k : Int) + 1 ∧ (∀ j, zv h' 202 j = if 160 * k ≤ j ∧ j < 160 * k + z then zv h 201 (j - 160 * k) else zv h 202 j) ∧ ∀ j, zv h' 203 j = if j = k then (z : Int) else zv h 203 j
def txI (k : Nat) (h0 h : ab_H) (i : Nat) : Prop := sm [202] h0 h ∧ ∀ j, zv h 202 j = if 160 * k ≤ j ∧ j < 160 * k + i then zv h0 201 (j - 160 * k) else zv h0 202 j
theorem lp_txr {d : Nat} {Q : ab_Q} {h0 : ab_H} {k z : Nat}  (hk : k < 4) (hz : z ≤ 160) (h7 : zv h0 200 7 = (k : Int)) (hb : ∀ i, i < z → -128 ≤ zv h0 201 i ∧ zv h0 201 i ≤ 127) (K : ∀ h', txI k h0 h' z → ab_X (d + 36) mX12_text 88 [(0, .ref 200), (2, .int (iI (z : Int)))] [] h' Q) : ∀ (nn : Nat) (i : Nat) (h : ab_H), z - i = nn → (i ≤ z) → (txI k h0 h i) → ab_X (d + 36) mX12_text 56 [(0, .ref 200), (2, .int (iI (z : Int))), (3, .int (iI (i : Int)))] [] h Q := by
  intro nn
  induction nn using Nat.strongRecOn with
  | ind nn ih =>
  intro i h hnn hi hI
  refine ab_iload_n (k := 2) dX12_text_56 rfl rfl ?_
  refine ab_iload_n (k := 1) dX12_text_57 rfl rfl ?_
  refine z_icmp_ge (tgt := 88) dX12_text_58 (by decide) (by omega) (by omega) (fun c58 => ?_) (fun c58 => ?_)
  · skip
    refine ab_sub (ls' := [(0, .ref 200), (2, .int (iI (z : Int)))]) (ks := [0, 1]) rfl ?_
    have e : i = z := by omega
    subst e
    exact K h hI
  · skip
    refine ab_aload_n (k := 0) dX12_text_61 rfl rfl ?_
    refine z_getP (b := 202) dX12_text_62 fX12_13 rfl rfl rfl ?_
    refine z_sipush dX12_text_65 (by decide) ?_
    refine ab_aload_n (k := 0) dX12_text_68 rfl rfl ?_
    refine z_getI dX12_text_69 fX12_279 rfl (Or.inl rfl) ?_
    refine z_is (y := (k : Int)) ((hI.1.1 200 7 (by decide)).trans h7) ?_
    refine z_imul dX12_text_72 ?_
    refine ab_iload_n (k := 2) dX12_text_73 rfl rfl ?_
    refine z_iadd dX12_text_74 ?_
    refine z_is (y := ((160 * k + i : Nat) : Int)) (by omega) ?_
    refine ab_aload_n (k := 0) dX12_text_75 rfl rfl ?_
    refine z_getP (b := 201) dX12_text_76 fX12_9 rfl rfl rfl ?_
    refine ab_iload_n (k := 2) dX12_text_79 rfl rfl ?_
    refine z_bald dX12_text_80 (Or.inl rfl) (by omega) (by omega) ?_
    simp only [Int.toNat_natCast]
    refine z_is (y := zv h0 201 i) (hI.1.1 201 i (by decide)) ?_
    refine z_bast (y := zv h0 201 i) dX12_text_81 rfl (by omega) (by omega) (narB (hb i (by omega))) ?_
    simp only [Int.toNat_natCast]
    refine z_iinc (k := 2) (v := (i : Int) + 1) (ls' := [(3, .int (iI ((i : Int) + 1))), (0, .ref 200), (2, .int (iI (z : Int)))]) dX12_text_82 rfl rfl (by decide) rfl ?_
    refine ab_goto (tgt := 56) dX12_text_85 (by decide) ?_
    refine ab_sub (ls' := [(0, .ref 200), (2, .int (iI (z : Int))), (3, .int (iI ((i : Int) + 1)))]) (ks := [1, 2, 0]) rfl ?_
    refine ih _ (by omega) (i + 1) _ rfl (by omega) ⟨hI.1.trans (sm_zp (by decide)), fun j => ?_⟩
    rw [zv_zp (zv_R _ _ _), hI.2 j]
    by_cases e : j = 160 * k + i
    · subst e; rw [if_pos ⟨rfl, rfl⟩, if_pos (by omega), show 160 * k + i - 160 * k = i by omega]
    · rw [if_neg (fun q => e q.2)]
      by_cases q : 160 * k ≤ j ∧ j < 160 * k + i
      · rw [if_pos q, if_pos (by omega)]
      · rw [if_neg q, if_neg (by omega)]
theorem c_mtext1 {d : Nat} {h : ab_H} {Q : ab_Q} {h9 : ab_H} {T : Nat → Int} {z : Nat} {env : Nat → Int} {k : Nat}  (e9 : zp h 200 0 0 = h9) (ht : tx T z) (hz1 : zv h9 200 6 = (z : Int)) (hT : ∀ i, i < z → zv h9 201 i = sby (T i)) (hE : ∀ s, ¬ li s = -1 → zv h9 204 s.toNat = env (li s).toNat ∧ -1000000 ≤ env (li s).toNat ∧ env (li s).toNat ≤ 1000000) (hk : k < 4) (h7 : zv h9 200 7 = (k : Int)) (hpR : inR (pRu T z).1) (k0 : ¬ (pRu T z).1 = -1 → ∀ h', F11 h9 h' → Q (some (.int (iI (-1)))) h') (k1 : (pRu T z).1 = -1 → ∀ h', tR h9 h' k z → Q (some (.int (iI (((k : Nat) : Int) + 1 - 1)))) h') : ab_X (d + 36) mX12_text 0 (lv_args 0 [.ref 200, .int (iI 1)]) [] h Q := by
  show ab_X (d + 36) mX12_text 0 [(0, .ref 200), (1, .int (iI 1))] [] h Q
  have hz := ht.1
  refine ab_aload_n (k := 0) dX12_text_0 rfl rfl ?_
  refine z_iconst dX12_text_1 ?_
  refine z_putI dX12_text_2 fX12_111 rfl rfl ?_
  rw [e9]
  refine ab_iload_n (k := 1) dX12_text_5 rfl rfl ?_
  refine z_i2l dX12_text_6 (by decide) ?_
  refine z_lconst (v := 0) dX12_text_7 (by decide) ?_
  refine z_lconst (v := 1) dX12_text_8 (by decide) ?_
  refine ab_callS (As := [.long (lL 1), .long (lL 0), .long (lL 1)]) (rest := []) dX12_text_9 lX12_232 (Nat.le_of_ble_eq_true rfl) (Nat.le_of_ble_eq_true rfl) rfl ?_
  refine c_isIn (by decide) (by decide) (by decide) (fun gi => ?_) (fun gi => ?_)
  · skip
    show ab_X (d + 36) mX12_text 12 [(0, .ref 200), (1, .int (iI 1))] [.int (iI 1)] h9 _
    refine z_if_eq (tgt := 37) dX12_text_12 (by decide) (by decide) (fun c12 => absurd c12 (by decide)) (fun _ => ?_)
    refine ab_iload_n (k := 1) dX12_text_15 rfl rfl ?_
    refine z_iconst dX12_text_16 ?_
    refine z_icmp_ne (tgt := 28) dX12_text_17 (by decide) (by decide) (by decide) (fun c17 => absurd c17 (by decide)) (fun _ => ?_)
    refine ab_aload_n (k := 0) dX12_text_20 rfl rfl ?_
    refine z_getI dX12_text_21 fX12_279 rfl (Or.inl rfl) ?_
    refine z_is (y := (k : Int)) h7 ?_
    refine z_iconst dX12_text_24 ?_
    refine z_icmp_eq (tgt := 37) dX12_text_25 (by decide) (by omega) (by decide) (fun c25 => ?_) (fun c25 => ?_)
    · skip
      refine z_iconst dX12_text_37 ?_
      refine z_iret dX12_text_38 rfl ?_
      exfalso; omega
    · skip
      refine ab_aload_n (k := 0) dX12_text_28 rfl rfl ?_
      refine ab_iload_n (k := 1) dX12_text_29 rfl rfl ?_
      refine ab_callV (As := [.int (iI 1)]) (rest := []) dX12_text_30 lX12_282 rfl (Nat.le_of_ble_eq_true rfl) (Nat.le_of_ble_eq_true rfl) rfl ?_
      obtain ⟨h8, e8⟩ : ∃ x : ab_H, zp h9 200 0 0 = x := ⟨_, rfl⟩
      have h90 : zv h9 200 0 = 0 := by rw [← e9, zv_zp_s (by decide)]
      have f8 := F12_0 e8 h90
      refine c_mfault1 (T := T) (z := z) (env := env) e8 ht ((f8.2.2 6 (by omega) (by omega)).trans hz1) (fun i hi => (f8.2.1 201 i (by decide)).trans (hT i hi)) (fun s hs => by rw [f8.2.1 204 _ (by decide)]; exact hE s hs) (fun l30 F30 => ?_)
      show ab_X (d + 36) mX12_text 33 [(0, .ref 200), (1, .int (iI 1))] [.int (iI ((pRu T z).1))] l30 _
      refine z_iconst dX12_text_33 ?_
      refine z_icmp_eq (tgt := 39) dX12_text_34 (by decide) (by omega) (by decide) (fun c34 => ?_) (fun c34 => ?_)
      · skip
        refine ab_aload_n (k := 0) dX12_text_39 rfl rfl ?_
        refine z_getI dX12_text_40 fX12_124 rfl (Or.inl rfl) ?_
        refine z_is (y := (z : Int)) ((F30.2 6 (by omega) (by omega)).trans ((f8.2.2 6 (by omega) (by omega)).trans hz1)) ?_
        refine ab_istore_n (ls' := [(2, .int (iI (z : Int))), (0, .ref 200), (1, .int (iI 1))]) dX12_text_43 rfl (by decide) rfl ?_
        refine ab_aload_n (k := 1) dX12_text_44 rfl rfl ?_
        refine z_iconst dX12_text_45 ?_
        refine z_putI dX12_text_46 fX12_124 rfl rfl ?_
        refine ab_iload_n (k := 2) dX12_text_49 rfl rfl ?_
        refine z_iconst dX12_text_50 ?_
        refine z_icmp_ne (tgt := 115) dX12_text_51 (by decide) (by decide) (by decide) (fun c51 => absurd c51 (by decide)) (fun _ => ?_)
        refine z_iconst dX12_text_54 ?_
        refine ab_istore_n (ls' := [(3, .int (iI 0)), (2, .int (iI (z : Int))), (0, .ref 200), (1, .int (iI 1))]) dX12_text_55 rfl (by decide) rfl ?_
        refine ab_sub (ls' := [(0, .ref 200), (2, .int (iI (z : Int))), (3, .int (iI 0))]) (ks := [2, 1, 0]) rfl ?_
        have hpr : (pRu T z).1 = -1 := by omega
        have fL : F11 h9 l30 := f8.2.tr F30
        obtain ⟨a0, ea0⟩ : ∃ x : ab_H, x = zp l30 200 6 0 := ⟨_, rfl⟩
        rw [← ea0]
        have g7 : zv a0 200 7 = (k : Int) := by rw [ea0, zv_zp_ne (by decide), fL.2 7 (by omega) (by omega)]; exact h7
        refine lp_txr hk hz g7 (fun i hi => ?_) (fun h1 t1 => ?_) _ 0 a0 rfl (by omega) ⟨sm.refl, fun j => by rw [if_neg (by omega)]⟩
        · rw [ea0, zv_zp_a (by decide), fL.1 201 i (by decide), hT i hi]
          have hb := ht.2 i hi
          have := sby_c hb; omega
        have h17 : zv h1 200 7 = (k : Int) := (t1.1.1 200 7 (by decide)).trans g7
        refine ab_aload_n (k := 0) dX12_text_88 rfl rfl ?_
        refine z_getP (b := 203) dX12_text_89 fX12_16 rfl rfl rfl ?_
        refine ab_aload_n (k := 0) dX12_text_92 rfl rfl ?_
        refine z_getI dX12_text_93 fX12_279 rfl (Or.inl rfl) ?_
        refine z_is (y := (k : Int)) h17 ?_
        refine ab_iload_n (k := 1) dX12_text_96 rfl rfl ?_
        refine z_iast dX12_text_97 rfl (by omega) (by omega) ?_
        simp only [Int.toNat_natCast]
        refine ab_aload_n (k := 0) dX12_text_98 rfl rfl ?_
        refine ab_dup dX12_text_99 rfl ?_
        refine z_getI dX12_text_100 fX12_279 rfl (Or.inl rfl) ?_
        refine z_is (y := zv h1 200 7) (zv_zp_a (by decide)) ?_
        refine z_is (y := (k : Int)) h17 ?_
        refine z_iconst dX12_text_103 ?_
        refine z_iadd dX12_text_104 ?_
        refine z_putI dX12_text_105 fX12_279 rfl rfl ?_
        refine ab_aload_n (k := 0) dX12_text_108 rfl rfl ?_
        refine z_getI dX12_text_109 fX12_279 rfl (Or.inl rfl) ?_
        refine z_is (y := (k : Int) + 1) (zv_zp_s (by omega)) ?_
        refine z_iconst dX12_text_112 ?_
        refine z_isub dX12_text_113 ?_
        refine z_iret dX12_text_114 rfl ?_
        refine k1 hpr _ ⟨fun a j q1 q2 q3 => ?_, fun j q1 q2 => ?_, ?_, zv_zp_s (by omega), fun j => ?_, fun j => ?_⟩
        · rw [zv_zp_a q1, zv_zp_a q3, t1.1.1 a j (by simp only [List.mem_cons, List.not_mem_nil, or_false]; exact q2), ea0, zv_zp_a q1, fL.1 a j q1]
        · rw [zv_zp_ne (by omega), zv_zp_a (by decide), t1.1.1 200 j (by decide), ea0, zv_zp_ne (by omega), fL.2 j (by omega) q2]
        · rw [zv_zp_ne (by decide), zv_zp_a (by decide), t1.1.1 200 6 (by decide), ea0, zv_zp_s (by decide)]
        · rw [zv_zp_a (by decide), zv_zp_a (by decide), t1.2 j, ea0, zv_zp_a (by decide), zv_zp_a (by decide), fL.1 201 _ (by decide), fL.1 202 _ (by decide)]
        · rw [zv_zp_a (by decide), zv_zp (by omega), t1.1.1 203 j (by decide), ea0, zv_zp_a (by decide), fL.1 203 _ (by decide)]
          by_cases q : j = k
          · rw [if_pos ⟨rfl, q⟩, if_pos q]
          · rw [if_neg (fun r => q r.2), if_neg q]
      · skip
        refine z_iconst dX12_text_37 ?_
        refine z_iret dX12_text_38 rfl ?_
        exact k0 (by omega) _ (f8.2.tr F30)
  · skip
    exfalso; omega
theorem c_mtext4 {d : Nat} {h : ab_H} {Q : ab_Q} {h9 : ab_H}  (e9 : zp h 200 0 0 = h9) (h7 : zv h9 200 7 = 4) (K : Q (some (.int (iI (-1)))) h9) : ab_X (d + 36) mX12_text 0 (lv_args 0 [.ref 200, .int (iI 1)]) [] h Q := by
  show ab_X (d + 36) mX12_text 0 [(0, .ref 200), (1, .int (iI 1))] [] h Q
  refine ab_aload_n (k := 0) dX12_text_0 rfl rfl ?_
  refine z_iconst dX12_text_1 ?_
  refine z_putI dX12_text_2 fX12_111 rfl rfl ?_
  rw [e9]
  refine ab_iload_n (k := 1) dX12_text_5 rfl rfl ?_
  refine z_i2l dX12_text_6 (by decide) ?_
  refine z_lconst (v := 0) dX12_text_7 (by decide) ?_
  refine z_lconst (v := 1) dX12_text_8 (by decide) ?_
  refine ab_callS (As := [.long (lL 1), .long (lL 0), .long (lL 1)]) (rest := []) dX12_text_9 lX12_232 (Nat.le_of_ble_eq_true rfl) (Nat.le_of_ble_eq_true rfl) rfl ?_
  refine c_isIn (by decide) (by decide) (by decide) (fun gi => ?_) (fun gi => ?_)
  · skip
    show ab_X (d + 36) mX12_text 12 [(0, .ref 200), (1, .int (iI 1))] [.int (iI 1)] h9 _
    refine z_if_eq (tgt := 37) dX12_text_12 (by decide) (by decide) (fun c12 => absurd c12 (by decide)) (fun _ => ?_)
    refine ab_iload_n (k := 1) dX12_text_15 rfl rfl ?_
    refine z_iconst dX12_text_16 ?_
    refine z_icmp_ne (tgt := 28) dX12_text_17 (by decide) (by decide) (by decide) (fun c17 => absurd c17 (by decide)) (fun _ => ?_)
    refine ab_aload_n (k := 0) dX12_text_20 rfl rfl ?_
    refine z_getI dX12_text_21 fX12_279 rfl (Or.inl rfl) ?_
    refine z_is (y := 4) h7 ?_
    refine z_iconst dX12_text_24 ?_
    refine z_icmp_eq (tgt := 37) dX12_text_25 (by decide) (by decide) (by decide) (fun _ => ?_) (fun c25 => absurd c25 (by decide))
    refine z_iconst dX12_text_37 ?_
    refine z_iret dX12_text_38 rfl ?_
    exact K
  · skip
    exfalso; omega
theorem c_mtext_ {d : Nat} {h : ab_H} {Q : ab_Q} {h9 : ab_H} {s : Int}  (e9 : zp h 200 0 0 = h9) (hs : inR s) (hn : ¬ (s = 0 ∨ s = 1)) (K : Q (some (.int (iI (-1)))) h9) : ab_X (d + 1) mX12_text 0 (lv_args 0 [.ref 200, .int (iI s)]) [] h Q := by
  show ab_X (d + 1) mX12_text 0 [(0, .ref 200), (1, .int (iI s))] [] h Q
  refine ab_aload_n (k := 0) dX12_text_0 rfl rfl ?_
  refine z_iconst dX12_text_1 ?_
  refine z_putI dX12_text_2 fX12_111 rfl rfl ?_
  rw [e9]
  refine ab_iload_n (k := 1) dX12_text_5 rfl rfl ?_
  refine z_i2l dX12_text_6 (by omega) ?_
  refine z_lconst (v := 0) dX12_text_7 (by decide) ?_
  refine z_lconst (v := 1) dX12_text_8 (by decide) ?_
  refine ab_callS (As := [.long (lL s), .long (lL 0), .long (lL 1)]) (rest := []) dX12_text_9 lX12_232 (Nat.le_of_ble_eq_true rfl) (Nat.le_of_ble_eq_true rfl) rfl ?_
  refine c_isIn (by omega) (by omega) (by omega) (fun gi => ?_) (fun gi => ?_)
  · skip
    show ab_X (d + 1) mX12_text 12 [(0, .ref 200), (1, .int (iI s))] [.int (iI 1)] h9 _
    refine z_if_eq (tgt := 37) dX12_text_12 (by decide) (by decide) (fun c12 => absurd c12 (by decide)) (fun _ => ?_)
    refine ab_sub (ls' := [(0, .ref 200)]) (ks := [0]) rfl ?_
    exfalso; omega
  · skip
    show ab_X (d + 1) mX12_text 12 [(0, .ref 200), (1, .int (iI s))] [.int (iI 0)] h9 _
    refine z_if_eq (tgt := 37) dX12_text_12 (by decide) (by decide) (fun _ => ?_) (fun c12 => absurd c12 (by decide))
    refine z_iconst dX12_text_37 ?_
    refine z_iret dX12_text_38 rfl ?_
    exact K
