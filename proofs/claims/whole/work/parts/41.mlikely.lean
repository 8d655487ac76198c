/-! LIKELY of the model -/
theorem sT_tail {f : Nat → Int} {m : Nat} : ∀ n, m ≤ n → (∀ i, m ≤ i → i < n → f i = 0) → sT f n = sT f m
  | 0, h, _ => by rw [show m = 0 by omega]
  | n + 1, h, g => by
    by_cases e : m = n + 1
    · rw [e]
    · rw [sT_s, g n (by omega) (by omega), sT_tail n (by omega) (fun i a b => g i a (by omega))]; omega
def lyI (l n : Nat) (h0 h : ab_H) (F : Nat → Int) : Prop := sm [218] h0 h ∧ (∀ z, z < n → ∀ k, k < 21 → wv h 218 (21 * z + k) = oTb l n z k) ∧ ∀ k, k < 21 → wv h 218 (21 * n + k) = F k
theorem lyI_put {l n k0 : Nat} {h0 h : ab_H} {F G : Nat → Int} {x : Int} {j : Nat} (hI : lyI l n h0 h F) (hL : inL x) (ej : j = 21 * n + k0) (hk : k0 < 21) (hG : ∀ k, k < 21 → G k = if k = k0 then x else F k) : lyI l n h0 (wp h 218 j x) G := by
  subst ej
  refine ⟨hI.1.trans (sm_wp (by decide)), fun z hz k hk => ?_, fun k hk2 => ?_⟩
  · rw [wv_wp_ne (by omega)]; exact hI.2.1 z hz k hk
  · rw [hG k hk2, wv_wp hL]
    by_cases e : k = k0
    · rw [if_pos ⟨rfl, by omega⟩, if_pos e]
    · rw [if_neg (by omega), if_neg e]; exact hI.2.2 k hk2
theorem lyI_F {l n : Nat} {h0 h : ab_H} {F G : Nat → Int} (hI : lyI l n h0 h F) (hG : ∀ k, k < 21 → G k = F k) : lyI l n h0 h G := ⟨hI.1, hI.2.1, fun k hk => (hI.2.2 k hk).trans (hG k hk).symm⟩
theorem aT_out {l n p q k i : Nat} (hl : 1 ≤ l) (hn : n ≤ 20) (hp : p < n) (hq : q < n) (hi : i < 21) (hk : k < 21) (h : p < i ∨ q < k - (i + 1)) : aT (oTb l n p) (oTb l n q) 1 k i = 0 := by
  unfold aT
  split
  · rcases h with h | h
    · rw [(oTb_ok hl n (by omega) p hp).2 i h hi, Int.zero_mul]; exact Int.zero_tdiv _
    · rw [(oTb_ok hl n (by omega) q hq).2 _ h (by omega), Int.mul_zero]; exact Int.zero_tdiv _
  · rfl
theorem lp_odd3 {d : Nat} {Q : ab_Q} {h0 : ab_H} {l n p q i : Nat} (hl : 1 ≤ l) (hln : l ≤ n) (hn : n ≤ 20) (hq : p + q + l = n) (hi : i ≤ p) (K : ∀ h', lyI l n h0 h' (fun k => sT (fun p => aP (oTb l n p) (oTb l n (n - l - p)) 1 k) p + sT (aT (oTb l n p) (oTb l n q) 1 k) (i + 1) + if (i + 1) + 1 ≤ k ∧ k < (i + 1) + 1 + 0 then aT (oTb l n p) (oTb l n q) 1 k (i + 1) else 0) → ab_X d mX12_layOdds 161 [(0, .ref 200), (1, .int (iI (l : Int))), (2, .int (iI 21)), (3, .int (iI (n : Int))), (4, .int (iI (p : Int))), (5, .int (iI (q : Int))), (6, .int (iI (i : Int)))] [] h' Q) : ∀ (nn : Nat) (j : Nat) (h : ab_H), q + 1 - j = nn → (j ≤ q + 1) → (lyI l n h0 h (fun k => sT (fun p => aP (oTb l n p) (oTb l n (n - l - p)) 1 k) p + sT (aT (oTb l n p) (oTb l n q) 1 k) i + if i + 1 ≤ k ∧ k < i + 1 + j then aT (oTb l n p) (oTb l n q) 1 k i else 0)) → ab_X d mX12_layOdds 90 [(0, .ref 200), (1, .int (iI (l : Int))), (2, .int (iI 21)), (3, .int (iI (n : Int))), (4, .int (iI (p : Int))), (5, .int (iI (q : Int))), (6, .int (iI (i : Int))), (7, .int (iI (j : Int)))] [] h Q := by
  intro nn
  induction nn using Nat.strongRecOn with
  | ind nn ih =>
  intro j h hnn h2 hI
  refine ab_iload (k := 7) dX12_layOdds_90 rfl ?_
  refine ab_iload (k := 5) dX12_layOdds_92 rfl ?_
  refine z_icmp_gt (tgt := 161) dX12_layOdds_94 (by decide) (by omega) (by omega) (fun c94 => ?_) (fun c94 => ?_)
  · skip
    refine ab_sub (ls' := [(0, .ref 200), (1, .int (iI (l : Int))), (2, .int (iI 21)), (3, .int (iI (n : Int))), (4, .int (iI (p : Int))), (5, .int (iI (q : Int))), (6, .int (iI (i : Int)))]) (ks := [0, 1, 2, 3, 4, 5, 6]) rfl ?_
    have e : j = q + 1 := by omega
    subst e
    refine K h (lyI_F hI (fun k hk => ?_))
    have e0 : (if i + 1 + 1 ≤ k ∧ k < i + 1 + 1 + 0 then aT (oTb l n p) (oTb l n q) 1 k (i + 1) else 0) = 0 := if_neg (by omega)
    (try dsimp only)
    rw [sT_s, e0]
    by_cases f : i + 1 ≤ k ∧ k < i + 1 + (q + 1)
    · rw [if_pos f]; omega
    · rw [if_neg f]
      have : aT (oTb l n p) (oTb l n q) 1 k i = 0 := by
        by_cases g : i + 1 ≤ k
        · exact aT_out hl hn (by omega) (by omega) (by omega) hk (Or.inr (by omega))
        · unfold aT; rw [if_neg g]
      omega
  · skip
    refine ab_iload (k := 6) dX12_layOdds_97 rfl ?_
    refine ab_iload (k := 7) dX12_layOdds_99 rfl ?_
    refine z_iadd dX12_layOdds_101 ?_
    refine z_bipush dX12_layOdds_102 (by decide) ?_
    refine z_icmp_ge (tgt := 155) dX12_layOdds_104 (by decide) (by omega) (by decide) (fun c104 => ?_) (fun c104 => ?_)
    · skip
      refine z_iinc (k := 7) (v := (j : Int) + 1) (ls' := [(7, .int (iI ((j : Int) + 1))), (0, .ref 200), (1, .int (iI (l : Int))), (2, .int (iI 21)), (3, .int (iI (n : Int))), (4, .int (iI (p : Int))), (5, .int (iI (q : Int))), (6, .int (iI (i : Int)))]) dX12_layOdds_155 rfl rfl (by decide) rfl ?_
      refine ab_goto (tgt := 90) dX12_layOdds_158 (by decide) ?_
      refine ab_sub (ls' := [(0, .ref 200), (1, .int (iI (l : Int))), (2, .int (iI 21)), (3, .int (iI (n : Int))), (4, .int (iI (p : Int))), (5, .int (iI (q : Int))), (6, .int (iI (i : Int))), (7, .int (iI ((j : Int) + 1)))]) (ks := [1, 2, 3, 4, 5, 6, 7, 0]) rfl ?_
      refine ih _ (by omega) (j + 1) _ rfl (by omega) (lyI_F hI (fun k hk => ?_))
      (try dsimp only)
      by_cases f : i + 1 ≤ k ∧ k < i + 1 + j
      · rw [if_pos f, if_pos (by omega)]
      · rw [if_neg f, if_neg (by omega)]
    · skip
      have okp := (oTb_ok hl n (by omega) p (by omega)).1
      have okq := (oTb_ok hl n (by omega) q (by omega)).1
      have pb := pr_b (okp.b (show i < 21 by omega)) (okq.b (show j < 21 by omega))
      have pb2 := (okp.b (show i < 21 by omega)).2
      have eF := hI.2.2 (i + j + 1) (by omega)
      (try dsimp only at eF)
      rw [show (if i + 1 ≤ i + j + 1 ∧ i + j + 1 < i + 1 + j then aT (oTb l n p) (oTb l n q) 1 (i + j + 1) i else 0) = 0 from if_neg (by omega)] at eF
      have w1 := wb_b (l := l) (y := n) (p := p) (k := i + j + 1) (r := n - l) hl hn (by omega) (by omega) (by omega)
      have w2 := sT_nn (f := aT (oTb l n p) (oTb l n q) 1 (i + j + 1)) i (fun t ht => (aT_b okp okq (by omega) (by omega)).1)
      have w3 := sT_mono (f := aT (oTb l n p) (oTb l n q) 1 (i + j + 1)) (g := oTb l n p) i (fun t ht => (aT_b okp okq (by omega) (by omega)).2)
      have w4 := sT_len (f := oTb l n p) (m := i) 21 (by omega) okp.1
      have w5 := okp.2
      refine ab_aload_n (k := 0) dX12_layOdds_107 rfl rfl ?_
      refine z_getP (b := 218) dX12_layOdds_108 fX12_81 rfl rfl rfl ?_
      refine ab_iload_n (k := 2) dX12_layOdds_111 rfl rfl ?_
      refine ab_iload_n (k := 3) dX12_layOdds_112 rfl rfl ?_
      refine z_imul dX12_layOdds_113 ?_
      refine ab_iload (k := 6) dX12_layOdds_114 rfl ?_
      refine z_iadd dX12_layOdds_116 ?_
      refine ab_iload (k := 7) dX12_layOdds_117 rfl ?_
      refine z_iadd dX12_layOdds_119 ?_
      refine z_iconst dX12_layOdds_120 ?_
      refine z_iadd dX12_layOdds_121 ?_
      refine z_is (y := ((21 * n + (i + j + 1) : Nat) : Int)) (by omega) ?_
      refine ab_dup2 dX12_layOdds_122 rfl rfl ?_
      refine z_lald dX12_layOdds_123 rfl (by omega) (by omega) ?_
      simp only [Int.toNat_natCast]
      have b1 := wv_L h 218 (21 * n + (i + j + 1))
      refine ab_aload_n (k := 0) dX12_layOdds_124 rfl rfl ?_
      refine z_getP (b := 218) dX12_layOdds_125 fX12_81 rfl rfl rfl ?_
      refine ab_iload_n (k := 2) dX12_layOdds_128 rfl rfl ?_
      refine ab_iload (k := 4) dX12_layOdds_129 rfl ?_
      refine z_imul dX12_layOdds_131 ?_
      refine ab_iload (k := 6) dX12_layOdds_132 rfl ?_
      refine z_iadd dX12_layOdds_134 ?_
      refine z_is (y := ((21 * p + i : Nat) : Int)) (by omega) ?_
      refine z_lald dX12_layOdds_135 rfl (by omega) (by omega) ?_
      simp only [Int.toNat_natCast]
      refine z_isl (y := oTb l n p i) (hI.2.1 p (by omega) i (by omega)) ?_
      refine ab_aload_n (k := 0) dX12_layOdds_136 rfl rfl ?_
      refine z_getP (b := 218) dX12_layOdds_137 fX12_81 rfl rfl rfl ?_
      refine ab_iload_n (k := 2) dX12_layOdds_140 rfl rfl ?_
      refine ab_iload (k := 5) dX12_layOdds_141 rfl ?_
      refine z_imul dX12_layOdds_143 ?_
      refine ab_iload (k := 7) dX12_layOdds_144 rfl ?_
      refine z_iadd dX12_layOdds_146 ?_
      refine z_is (y := ((21 * q + j : Nat) : Int)) (by omega) ?_
      refine z_lald dX12_layOdds_147 rfl (by omega) (by omega) ?_
      simp only [Int.toNat_natCast]
      refine z_isl (y := oTb l n q j) (hI.2.1 q (by omega) j (by omega)) ?_
      refine z_lmul dX12_layOdds_148 ?_
      refine z_ldc2 (v := 1000000000) dX12_layOdds_149 qX12_388 (by decide) ?_
      refine z_ldiv dX12_layOdds_152 (by omega) (by omega) (by omega) ?_
      refine z_ladd dX12_layOdds_153 ?_
      refine z_last dX12_layOdds_154 rfl (by omega) (by omega) ?_
      simp only [Int.toNat_natCast]
      refine z_iinc (k := 7) (v := (j : Int) + 1) (ls' := [(7, .int (iI ((j : Int) + 1))), (0, .ref 200), (1, .int (iI (l : Int))), (2, .int (iI 21)), (3, .int (iI (n : Int))), (4, .int (iI (p : Int))), (5, .int (iI (q : Int))), (6, .int (iI (i : Int)))]) dX12_layOdds_155 rfl rfl (by decide) rfl ?_
      refine ab_goto (tgt := 90) dX12_layOdds_158 (by decide) ?_
      refine ab_sub (ls' := [(0, .ref 200), (1, .int (iI (l : Int))), (2, .int (iI 21)), (3, .int (iI (n : Int))), (4, .int (iI (p : Int))), (5, .int (iI (q : Int))), (6, .int (iI (i : Int))), (7, .int (iI ((j : Int) + 1)))]) (ks := [1, 2, 3, 4, 5, 6, 7, 0]) rfl ?_
      refine ih _ (by omega) (j + 1) _ rfl (by omega) (lyI_put (k0 := i + j + 1) hI (by omega) rfl (by omega) (fun k hk => ?_))
      (try dsimp only)
      by_cases e : k = i + j + 1
      · subst e
        rw [if_pos rfl, if_pos (by omega), eF]
        have : aT (oTb l n p) (oTb l n q) 1 (i + j + 1) i = Int.tdiv (oTb l n p i * oTb l n q j) 1000000000 := by unfold aT; rw [if_pos (by omega), show i + j + 1 - (i + 1) = j by omega]
        rw [this]; omega
      · rw [if_neg e]
        by_cases f : i + 1 ≤ k ∧ k < i + 1 + j
        · rw [if_pos f, if_pos (by omega)]
        · rw [if_neg f, if_neg (by omega)]
theorem lp_odd2 {d : Nat} {Q : ab_Q} {h0 : ab_H} {l n p q : Nat} (hl : 1 ≤ l) (hln : l ≤ n) (hn : n ≤ 20) (hq : p + q + l = n) (K : ∀ h', lyI l n h0 h' (fun k => sT (fun p => aP (oTb l n p) (oTb l n (n - l - p)) 1 k) (p + 1)) → ab_X d mX12_layOdds 167 [(0, .ref 200), (1, .int (iI (l : Int))), (2, .int (iI 21)), (3, .int (iI (n : Int))), (4, .int (iI (p : Int)))] [] h' Q) : ∀ (nn : Nat) (i : Nat) (h : ab_H), p + 1 - i = nn → (i ≤ p + 1) → (lyI l n h0 h (fun k => sT (fun p => aP (oTb l n p) (oTb l n (n - l - p)) 1 k) p + sT (aT (oTb l n p) (oTb l n q) 1 k) i + if i + 1 ≤ k ∧ k < i + 1 + 0 then aT (oTb l n p) (oTb l n q) 1 k i else 0)) → ab_X d mX12_layOdds 80 [(0, .ref 200), (1, .int (iI (l : Int))), (2, .int (iI 21)), (3, .int (iI (n : Int))), (4, .int (iI (p : Int))), (5, .int (iI (q : Int))), (6, .int (iI (i : Int)))] [] h Q := by
  intro nn
  induction nn using Nat.strongRecOn with
  | ind nn ih =>
  intro i h hnn h2 hI
  refine ab_iload (k := 6) dX12_layOdds_80 rfl ?_
  refine ab_iload (k := 4) dX12_layOdds_82 rfl ?_
  refine z_icmp_gt (tgt := 167) dX12_layOdds_84 (by decide) (by omega) (by omega) (fun c84 => ?_) (fun c84 => ?_)
  · skip
    refine ab_sub (ls' := [(0, .ref 200), (1, .int (iI (l : Int))), (2, .int (iI 21)), (3, .int (iI (n : Int))), (4, .int (iI (p : Int)))]) (ks := [0, 1, 2, 3, 4]) rfl ?_
    have e : i = p + 1 := by omega
    subst e
    refine K h (lyI_F hI (fun k hk => ?_))
    (try dsimp only)
    rw [if_neg (by omega), sT_s]
    have e2 : aP (oTb l n p) (oTb l n (n - l - p)) 1 k = sT (aT (oTb l n p) (oTb l n q) 1 k) (p + 1) := by
      rw [show n - l - p = q by omega]
      exact sT_tail 21 (by omega) (fun i a b => aT_out hl hn (by omega) (by omega) b hk (Or.inl (by omega)))
    omega
  · skip
    refine z_iconst dX12_layOdds_87 ?_
    refine ab_istore (ls' := [(7, .int (iI 0)), (0, .ref 200), (1, .int (iI (l : Int))), (2, .int (iI 21)), (3, .int (iI (n : Int))), (4, .int (iI (p : Int))), (5, .int (iI (q : Int))), (6, .int (iI (i : Int)))]) dX12_layOdds_88 (by decide) rfl ?_
    refine ab_sub (ls' := [(0, .ref 200), (1, .int (iI (l : Int))), (2, .int (iI 21)), (3, .int (iI (n : Int))), (4, .int (iI (p : Int))), (5, .int (iI (q : Int))), (6, .int (iI (i : Int))), (7, .int (iI 0))]) (ks := [1, 2, 3, 4, 5, 6, 7, 0]) rfl ?_
    refine lp_odd3 (i := i) hl hln hn hq (by omega) (fun h' hI' => ?_) _ 0 h rfl (by omega) hI
    refine z_iinc (k := 6) (v := (i : Int) + 1) (ls' := [(6, .int (iI ((i : Int) + 1))), (0, .ref 200), (1, .int (iI (l : Int))), (2, .int (iI 21)), (3, .int (iI (n : Int))), (4, .int (iI (p : Int))), (5, .int (iI (q : Int)))]) dX12_layOdds_161 rfl rfl (by decide) rfl ?_
    refine ab_goto (tgt := 80) dX12_layOdds_164 (by decide) ?_
    refine ab_sub (ls' := [(0, .ref 200), (1, .int (iI (l : Int))), (2, .int (iI 21)), (3, .int (iI (n : Int))), (4, .int (iI (p : Int))), (5, .int (iI (q : Int))), (6, .int (iI ((i : Int) + 1)))]) (ks := [1, 2, 3, 4, 5, 6, 0]) rfl ?_
    exact ih _ (by omega) (i + 1) h' rfl (by omega) hI'
theorem lp_odd1 {d : Nat} {Q : ab_Q} {h0 : ab_H} {l n : Nat} (hl : 1 ≤ l) (hln : l ≤ n) (hn : n ≤ 20) (K : ∀ h', lyI l n h0 h' (fun k => sT (fun p => aP (oTb l n p) (oTb l n (n - l - p)) 1 k) (n - l + 1)) → ab_X d mX12_layOdds 173 [(0, .ref 200), (1, .int (iI (l : Int))), (2, .int (iI 21)), (3, .int (iI (n : Int)))] [] h' Q) : ∀ (nn : Nat) (p : Nat) (h : ab_H), n - l + 1 - p = nn → (p ≤ n - l + 1) → (lyI l n h0 h (fun k => sT (fun p => aP (oTb l n p) (oTb l n (n - l - p)) 1 k) p)) → ab_X d mX12_layOdds 61 [(0, .ref 200), (1, .int (iI (l : Int))), (2, .int (iI 21)), (3, .int (iI (n : Int))), (4, .int (iI (p : Int)))] [] h Q := by
  intro nn
  induction nn using Nat.strongRecOn with
  | ind nn ih =>
  intro p h hnn h2 hI
  refine ab_iload (k := 4) dX12_layOdds_61 rfl ?_
  refine ab_iload_n (k := 1) dX12_layOdds_63 rfl rfl ?_
  refine z_iadd dX12_layOdds_64 ?_
  refine ab_iload_n (k := 3) dX12_layOdds_65 rfl rfl ?_
  refine z_icmp_gt (tgt := 173) dX12_layOdds_66 (by decide) (by omega) (by omega) (fun c66 => ?_) (fun c66 => ?_)
  · skip
    refine ab_sub (ls' := [(0, .ref 200), (1, .int (iI (l : Int))), (2, .int (iI 21)), (3, .int (iI (n : Int)))]) (ks := [0, 1, 2, 3]) rfl ?_
    have e : p = n - l + 1 := by omega
    subst e
    exact K h hI
  · skip
    refine ab_iload_n (k := 3) dX12_layOdds_69 rfl rfl ?_
    refine ab_iload_n (k := 1) dX12_layOdds_70 rfl rfl ?_
    refine z_isub dX12_layOdds_71 ?_
    refine ab_iload (k := 4) dX12_layOdds_72 rfl ?_
    refine z_isub dX12_layOdds_74 ?_
    refine z_is (y := ((n - l - p : Nat) : Int)) (by omega) ?_
    refine ab_istore (ls' := [(5, .int (iI ((n - l - p : Nat) : Int))), (0, .ref 200), (1, .int (iI (l : Int))), (2, .int (iI 21)), (3, .int (iI (n : Int))), (4, .int (iI (p : Int)))]) dX12_layOdds_75 (by decide) rfl ?_
    refine z_iconst dX12_layOdds_77 ?_
    refine ab_istore (ls' := [(6, .int (iI 0)), (5, .int (iI ((n - l - p : Nat) : Int))), (0, .ref 200), (1, .int (iI (l : Int))), (2, .int (iI 21)), (3, .int (iI (n : Int))), (4, .int (iI (p : Int)))]) dX12_layOdds_78 (by decide) rfl ?_
    refine ab_sub (ls' := [(0, .ref 200), (1, .int (iI (l : Int))), (2, .int (iI 21)), (3, .int (iI (n : Int))), (4, .int (iI (p : Int))), (5, .int (iI ((n - l - p : Nat) : Int))), (6, .int (iI 0))]) (ks := [2, 3, 4, 5, 6, 1, 0]) rfl ?_
    refine lp_odd2 (q := n - l - p) hl hln hn (by omega) (fun h' hI' => ?_) _ 0 h rfl (by omega) (lyI_F hI (fun k hk => ?_))
    · skip
      refine z_iinc (k := 4) (v := (p : Int) + 1) (ls' := [(4, .int (iI ((p : Int) + 1))), (0, .ref 200), (1, .int (iI (l : Int))), (2, .int (iI 21)), (3, .int (iI (n : Int)))]) dX12_layOdds_167 rfl rfl (by decide) rfl ?_
      refine ab_goto (tgt := 61) dX12_layOdds_170 (by decide) ?_
      refine ab_sub (ls' := [(0, .ref 200), (1, .int (iI (l : Int))), (2, .int (iI 21)), (3, .int (iI (n : Int))), (4, .int (iI ((p : Int) + 1)))]) (ks := [1, 2, 3, 4, 0]) rfl ?_
      exact ih _ (by omega) (p + 1) h' rfl (by omega) hI'
    · (try dsimp only)
      rw [if_neg (by omega)]
      show _ + (0 : Int) + 0 = _
      omega
theorem lp_odd4 {d : Nat} {Q : ab_Q} {h0 : ab_H} {l n : Nat} {S : Nat → Int} (hl : 1 ≤ l) (hln : l ≤ n) (hn : n ≤ 20) (hS : ∀ k, k < 21 → 0 ≤ S k ∧ S k ≤ 1000000000000) (K : ∀ h', lyI l n h0 h' (fun k => Int.tdiv (S k) (((n : Int) - (l : Int)) + 1)) → ab_X d mX12_layOdds 209 [(0, .ref 200), (1, .int (iI (l : Int))), (2, .int (iI 21)), (3, .int (iI (n : Int)))] [] h' Q) : ∀ (nn : Nat) (k : Nat) (h : ab_H), 21 - k = nn → (k ≤ 21) → (lyI l n h0 h (fun j => if j < k then Int.tdiv (S j) (((n : Int) - (l : Int)) + 1) else S j)) → ab_X d mX12_layOdds 176 [(0, .ref 200), (1, .int (iI (l : Int))), (2, .int (iI 21)), (3, .int (iI (n : Int))), (4, .int (iI (k : Int)))] [] h Q := by
  intro nn
  induction nn using Nat.strongRecOn with
  | ind nn ih =>
  intro k h hnn h2 hI
  refine ab_iload (k := 4) dX12_layOdds_176 rfl ?_
  refine z_bipush dX12_layOdds_178 (by decide) ?_
  refine z_icmp_gt (tgt := 209) dX12_layOdds_180 (by decide) (by omega) (by decide) (fun c180 => ?_) (fun c180 => ?_)
  · skip
    refine ab_sub (ls' := [(0, .ref 200), (1, .int (iI (l : Int))), (2, .int (iI 21)), (3, .int (iI (n : Int)))]) (ks := [0, 1, 2, 3]) rfl ?_
    have e : k = 21 := by omega
    subst e
    exact K h (lyI_F hI (fun j hj => by (try dsimp only); rw [if_pos hj]))
  · skip
    have hSk := hS k (by omega)
    refine ab_aload_n (k := 0) dX12_layOdds_183 rfl rfl ?_
    refine z_getP (b := 218) dX12_layOdds_184 fX12_81 rfl rfl rfl ?_
    refine ab_iload_n (k := 2) dX12_layOdds_187 rfl rfl ?_
    refine ab_iload_n (k := 3) dX12_layOdds_188 rfl rfl ?_
    refine z_imul dX12_layOdds_189 ?_
    refine ab_iload (k := 4) dX12_layOdds_190 rfl ?_
    refine z_iadd dX12_layOdds_192 ?_
    refine z_is (y := ((21 * n + k : Nat) : Int)) (by omega) ?_
    refine ab_dup2 dX12_layOdds_193 rfl rfl ?_
    refine z_lald dX12_layOdds_194 rfl (by omega) (by omega) ?_
    simp only [Int.toNat_natCast]
    refine z_isl (y := S k) ((hI.2.2 k (by omega)).trans (if_neg (by omega))) ?_
    refine ab_iload_n (k := 3) dX12_layOdds_195 rfl rfl ?_
    refine ab_iload_n (k := 1) dX12_layOdds_196 rfl rfl ?_
    refine z_isub dX12_layOdds_197 ?_
    refine z_iconst dX12_layOdds_198 ?_
    refine z_iadd dX12_layOdds_199 ?_
    refine z_i2l dX12_layOdds_200 (by omega) ?_
    refine z_ldiv dX12_layOdds_201 (by omega) (by omega) (by omega) ?_
    refine z_last dX12_layOdds_202 rfl (by omega) (by omega) ?_
    simp only [Int.toNat_natCast]
    refine z_iinc (k := 4) (v := (k : Int) + 1) (ls' := [(4, .int (iI ((k : Int) + 1))), (0, .ref 200), (1, .int (iI (l : Int))), (2, .int (iI 21)), (3, .int (iI (n : Int)))]) dX12_layOdds_203 rfl rfl (by decide) rfl ?_
    refine ab_goto (tgt := 176) dX12_layOdds_206 (by decide) ?_
    refine ab_sub (ls' := [(0, .ref 200), (1, .int (iI (l : Int))), (2, .int (iI 21)), (3, .int (iI (n : Int))), (4, .int (iI ((k : Int) + 1)))]) (ks := [1, 2, 3, 4, 0]) rfl ?_
    refine ih _ (by omega) (k + 1) _ rfl (by omega) (lyI_put (k0 := k) hI (td_L (by omega) (by omega)) rfl (by omega) (fun j hj => ?_))
    (try dsimp only)
    by_cases e : j = k
    · subst e; rw [if_pos rfl, if_pos (by omega)]
    · rw [if_neg e]
      by_cases f : j < k
      · rw [if_pos f, if_pos (by omega)]
      · rw [if_neg f, if_neg (by omega)]
theorem lp_odd0 {d : Nat} {Q : ab_Q} {h0 : ab_H} {l n : Nat} {S : Nat → Int} (hn : n ≤ 20) (hl : l ≤ 9) (K : ∀ h', lyI l n h0 h' (fun _ => 0) → ab_X d mX12_layOdds 39 [(0, .ref 200), (1, .int (iI (l : Int))), (2, .int (iI 21)), (3, .int (iI (n : Int)))] [] h' Q) : ∀ (nn : Nat) (k : Nat) (h : ab_H), 21 - k = nn → (k ≤ 21) → (lyI l n h0 h (fun j => if j < k then 0 else S j)) → ab_X d mX12_layOdds 14 [(0, .ref 200), (1, .int (iI (l : Int))), (2, .int (iI 21)), (3, .int (iI (n : Int))), (4, .int (iI (k : Int)))] [] h Q := by
  intro nn
  induction nn using Nat.strongRecOn with
  | ind nn ih =>
  intro k h hnn h2 hI
  refine ab_iload (k := 4) dX12_layOdds_14 rfl ?_
  refine z_bipush dX12_layOdds_16 (by decide) ?_
  refine z_icmp_gt (tgt := 39) dX12_layOdds_18 (by decide) (by omega) (by decide) (fun c18 => ?_) (fun c18 => ?_)
  · skip
    refine ab_sub (ls' := [(0, .ref 200), (1, .int (iI (l : Int))), (2, .int (iI 21)), (3, .int (iI (n : Int)))]) (ks := [0, 1, 2, 3]) rfl ?_
    have e : k = 21 := by omega
    subst e
    exact K h (lyI_F hI (fun j hj => by (try dsimp only); rw [if_pos hj]))
  · skip
    refine ab_aload_n (k := 0) dX12_layOdds_21 rfl rfl ?_
    refine z_getP (b := 218) dX12_layOdds_22 fX12_81 rfl rfl rfl ?_
    refine ab_iload_n (k := 2) dX12_layOdds_25 rfl rfl ?_
    refine ab_iload_n (k := 3) dX12_layOdds_26 rfl rfl ?_
    refine z_imul dX12_layOdds_27 ?_
    refine ab_iload (k := 4) dX12_layOdds_28 rfl ?_
    refine z_iadd dX12_layOdds_30 ?_
    refine z_is (y := ((21 * n + k : Nat) : Int)) (by omega) ?_
    refine z_lconst (v := 0) dX12_layOdds_31 (by decide) ?_
    refine z_last dX12_layOdds_32 rfl (by omega) (by omega) ?_
    simp only [Int.toNat_natCast]
    refine z_iinc (k := 4) (v := (k : Int) + 1) (ls' := [(4, .int (iI ((k : Int) + 1))), (0, .ref 200), (1, .int (iI (l : Int))), (2, .int (iI 21)), (3, .int (iI (n : Int)))]) dX12_layOdds_33 rfl rfl (by decide) rfl ?_
    refine ab_goto (tgt := 14) dX12_layOdds_36 (by decide) ?_
    refine ab_sub (ls' := [(0, .ref 200), (1, .int (iI (l : Int))), (2, .int (iI 21)), (3, .int (iI (n : Int))), (4, .int (iI ((k : Int) + 1)))]) (ks := [1, 2, 3, 4, 0]) rfl ?_
    refine ih _ (by omega) (k + 1) _ rfl (by omega) (lyI_put (k0 := k) hI (by decide) rfl (by omega) (fun j hj => ?_))
    (try dsimp only)
    by_cases e : j = k
    · subst e; rw [if_pos rfl, if_pos (by omega)]
    · rw [if_neg e]
      by_cases f : j < k
      · rw [if_pos f, if_pos (by omega)]
      · rw [if_neg f, if_neg (by omega)]
def otM (h : ab_H) (l n : Nat) : Prop := ∀ z, z < n → ∀ k, k < 21 → wv h 218 (21 * z + k) = oTb l n z k
theorem otM_next {h0 h : ab_H} {l n : Nat} {F : Nat → Int} (hI : lyI l n h0 h F) (hF : ∀ k, k < 21 → F k = oNext l n (oTb l n) k) : otM h l (n + 1) := fun z hz k hk => by
  by_cases e : z = n
  · subst e; rw [hI.2.2 k hk, oTb_n]; exact hF k hk
  · rw [oTb_o e]; exact hI.2.1 z (by omega) k hk
theorem lp_odd {d : Nat} {Q : ab_Q} {h0 : ab_H} {l : Nat} (hl : 1 ≤ l) (hl2 : l ≤ 9) (K : ∀ h', sm [218] h0 h' → otM h' l 21 → Q none h') : ∀ (nn : Nat) (n : Nat) (h : ab_H), 21 - n = nn → (n ≤ 21) → (sm [218] h0 h) → (otM h l n) → ab_X d mX12_layOdds 5 [(0, .ref 200), (1, .int (iI (l : Int))), (2, .int (iI 21)), (3, .int (iI (n : Int)))] [] h Q := by
  intro nn
  induction nn using Nat.strongRecOn with
  | ind nn ih =>
  intro n h hnn h2 hS hI
  refine ab_iload_n (k := 3) dX12_layOdds_5 rfl rfl ?_
  refine z_bipush dX12_layOdds_6 (by decide) ?_
  refine z_icmp_gt (tgt := 215) dX12_layOdds_8 (by decide) (by omega) (by decide) (fun c8 => ?_) (fun c8 => ?_)
  · skip
    refine z_vret dX12_layOdds_215 rfl ?_
    have e : n = 21 := by omega
    subst e
    exact K h hS hI
  · skip
    refine z_iconst dX12_layOdds_11 ?_
    refine ab_istore (ls' := [(4, .int (iI 0)), (0, .ref 200), (1, .int (iI (l : Int))), (2, .int (iI 21)), (3, .int (iI (n : Int)))]) dX12_layOdds_12 (by decide) rfl ?_
    refine ab_sub (ls' := [(0, .ref 200), (1, .int (iI (l : Int))), (2, .int (iI 21)), (3, .int (iI (n : Int))), (4, .int (iI 0))]) (ks := [1, 2, 3, 4, 0]) rfl ?_
    refine lp_odd0 (h0 := h) (S := fun k => wv h 218 (21 * n + k)) (by omega) hl2 (fun h1 hI1 => ?_) _ 0 h rfl (by omega) ⟨sm.refl, hI, fun k hk => by (try dsimp only); rw [if_neg (by omega)]⟩
    refine ab_iload_n (k := 3) dX12_layOdds_39 rfl rfl ?_
    refine ab_iload_n (k := 1) dX12_layOdds_40 rfl rfl ?_
    refine z_icmp_ge (tgt := 58) dX12_layOdds_41 (by decide) (by omega) (by omega) (fun c41 => ?_) (fun c41 => ?_)
    · skip
      refine z_iconst dX12_layOdds_58 ?_
      refine ab_istore (ls' := [(4, .int (iI 0)), (0, .ref 200), (1, .int (iI (l : Int))), (2, .int (iI 21)), (3, .int (iI (n : Int)))]) dX12_layOdds_59 (by decide) rfl ?_
      refine ab_sub (ls' := [(0, .ref 200), (1, .int (iI (l : Int))), (2, .int (iI 21)), (3, .int (iI (n : Int))), (4, .int (iI 0))]) (ks := [1, 2, 3, 4, 0]) rfl ?_
      refine lp_odd1 hl (by omega) (by omega) (fun h2 hI2 => ?_) _ 0 h1 rfl (by omega) hI1
      refine z_iconst dX12_layOdds_173 ?_
      refine ab_istore (ls' := [(4, .int (iI 0)), (0, .ref 200), (1, .int (iI (l : Int))), (2, .int (iI 21)), (3, .int (iI (n : Int)))]) dX12_layOdds_174 (by decide) rfl ?_
      refine ab_sub (ls' := [(0, .ref 200), (1, .int (iI (l : Int))), (2, .int (iI 21)), (3, .int (iI (n : Int))), (4, .int (iI 0))]) (ks := [1, 2, 3, 4, 0]) rfl ?_
      refine lp_odd4 (S := fun k => sT (fun p => aP (oTb l n p) (oTb l n (n - l - p)) 1 k) (n - l + 1)) hl (by omega) (by omega) (fun k hk => ?_) (fun h3 hI3 => ?_) _ 0 h2 rfl (by omega) (lyI_F hI2 (fun j hj => by (try dsimp only); rw [if_neg (by omega)]))
      · have := wb_b (l := l) (y := n) (p := n - l + 1) (k := k) (r := n - l) hl (by omega) (by omega) (Nat.le_refl _) hk; omega
      refine z_iinc (k := 3) (v := (n : Int) + 1) (ls' := [(3, .int (iI ((n : Int) + 1))), (0, .ref 200), (1, .int (iI (l : Int))), (2, .int (iI 21))]) dX12_layOdds_209 rfl rfl (by decide) rfl ?_
      refine ab_goto (tgt := 5) dX12_layOdds_212 (by decide) ?_
      refine ab_sub (ls' := [(0, .ref 200), (1, .int (iI (l : Int))), (2, .int (iI 21)), (3, .int (iI ((n : Int) + 1)))]) (ks := [1, 2, 3, 0]) rfl ?_
      refine ih _ (by omega) (n + 1) _ rfl (by omega) (hS.trans hI3.1) (otM_next hI3 (fun k hk => ?_))
      unfold oNext
      rw [if_neg (by omega), show ((n - l + 1 : Nat) : Int) = (n : Int) - (l : Int) + 1 by omega]
    · skip
      refine ab_aload_n (k := 0) dX12_layOdds_44 rfl rfl ?_
      refine z_getP (b := 218) dX12_layOdds_45 fX12_81 rfl rfl rfl ?_
      refine ab_iload_n (k := 2) dX12_layOdds_48 rfl rfl ?_
      refine ab_iload_n (k := 3) dX12_layOdds_49 rfl rfl ?_
      refine z_imul dX12_layOdds_50 ?_
      refine z_ldc2 (v := 1000000000) dX12_layOdds_51 qX12_388 (by decide) ?_
      refine z_last dX12_layOdds_54 rfl (by omega) (by omega) ?_
      refine ab_goto (tgt := 209) dX12_layOdds_55 (by decide) ?_
      refine z_iinc (k := 3) (v := (n : Int) + 1) (ls' := [(3, .int (iI ((n : Int) + 1))), (0, .ref 200), (1, .int (iI (l : Int))), (2, .int (iI 21))]) dX12_layOdds_209 rfl rfl (by decide) rfl ?_
      refine ab_goto (tgt := 5) dX12_layOdds_212 (by decide) ?_
      refine ab_sub (ls' := [(0, .ref 200), (1, .int (iI (l : Int))), (2, .int (iI 21)), (3, .int (iI ((n : Int) + 1)))]) (ks := [1, 2, 3, 0]) rfl ?_
      have hI2 := lyI_put (k0 := 0) (G := fun k => if k = 0 then 1000000000 else 0) hI1 (x := 1000000000) (by decide) rfl (by decide) (fun k hk => rfl)
      refine ih _ (by omega) (n + 1) _ rfl (by omega) (hS.trans hI2.1) (otM_next hI2 (fun k hk => ?_))
      unfold oNext
      rw [if_pos (show n < l by omega)]
theorem c_layOdds {d : Nat} {h : ab_H} {Q : ab_Q} {l : Nat} (hl : 1 ≤ l) (hl2 : l ≤ 9) (K : ∀ h', sm [218] h h' → otM h' l 21 → Q none h') : ab_X d mX12_layOdds 0 (lv_args 0 [.ref 200, .int (iI (l : Int))]) [] h Q := by
  show ab_X d mX12_layOdds 0 [(0, .ref 200), (1, .int (iI (l : Int)))] [] h Q
  refine z_bipush dX12_layOdds_0 (by decide) ?_
  refine ab_istore_n (ls' := [(2, .int (iI 21)), (0, .ref 200), (1, .int (iI (l : Int)))]) dX12_layOdds_2 rfl (by decide) rfl ?_
  refine z_iconst dX12_layOdds_3 ?_
  refine ab_istore_n (ls' := [(3, .int (iI 0)), (2, .int (iI 21)), (0, .ref 200), (1, .int (iI (l : Int)))]) dX12_layOdds_4 rfl (by decide) rfl ?_
  refine ab_sub (ls' := [(0, .ref 200), (1, .int (iI (l : Int))), (2, .int (iI 21)), (3, .int (iI 0))]) (ks := [2, 3, 1, 0]) rfl ?_
  exact lp_odd hl hl2 K _ 0 h rfl (by omega) sm.refl (fun z hz => absurd hz (by omega))
def apG (A B : Nat → Int) (rs m : Nat) (h0 h : ab_H) (i j : Nat) : Prop := sm [rs] h0 h ∧ ∀ k, k < 21 → wv h rs k = wv h0 rs k + sT (aT A B m k) i + if i + m ≤ k ∧ k < i + m + j then aT A B m k i else 0
theorem apG_next {A B : Nat → Int} {rs m : Nat} {h0 h : ab_H} {i j : Nat} (hI : apG A B rs m h0 h i j) (hj : 21 ≤ i + m + j) : apG A B rs m h0 h (i + 1) 0 := by
  refine ⟨hI.1, fun k hk => ?_⟩
  have e0 : (if i + 1 + m ≤ k ∧ k < i + 1 + m + 0 then aT A B m k (i + 1) else 0) = 0 := if_neg (by omega)
  rw [hI.2 k hk, sT_s, e0]
  by_cases e : i + m ≤ k
  · rw [if_pos (by omega)]; omega
  · rw [if_neg (by omega)]
    have : aT A B m k i = 0 := by unfold aT; rw [if_neg e]
    omega
theorem apG_step {A B : Nat → Int} {rs m : Nat} {h0 h : ab_H} {i j c : Nat} {x : Int} (hI : apG A B rs m h0 h i j) (hc : c = i + j + m) (hx : x = wv h rs c + Int.tdiv (A i * B j) 1000000000) (hL : inL x) : apG A B rs m h0 (wp h rs c x) i (j + 1) := by
  subst hc
  refine ⟨hI.1.trans (sm_wp (by simp)), fun k hk => ?_⟩
  rw [wv_wp hL]
  by_cases e : k = i + j + m
  · subst e
    rw [if_pos ⟨rfl, rfl⟩, hx, hI.2 _ hk, if_neg (by omega), if_pos (by omega)]
    have : aT A B m (i + j + m) i = Int.tdiv (A i * B j) 1000000000 := by unfold aT; rw [if_pos (by omega), show i + j + m - (i + m) = j by omega]
    omega
  · rw [if_neg (fun q => e q.2), hI.2 k hk]
    by_cases f : i + m ≤ k ∧ k < i + m + j
    · rw [if_pos f, if_pos (by omega)]
    · rw [if_neg f, if_neg (by omega)]
theorem apG_b {A B : Nat → Int} {rs m : Nat} {h0 h : ab_H} {i j : Nat} (ha : rowOK A) (hb : rowOK B) (hi : i < 21) (hs : ∀ k, k < 21 → wv h0 rs k = 0) (hI : apG A B rs m h0 h i j) {k : Nat} (hk : k < 21) : 0 ≤ wv h rs k ∧ wv h rs k ≤ 2000000000 := by
  have h1 := sT_nn (f := aT A B m k) i (fun t ht => (aT_b ha hb hk (by omega)).1)
  have h2 := sT_mono (f := aT A B m k) (g := A) i (fun t ht => (aT_b ha hb hk (by omega)).2)
  have h3 := sT_len (f := A) (m := i) 21 (by omega) ha.1
  have h4 := aT_b ha hb (m := m) hk hi
  have h5 := (ha.b hi).2
  have h6 := hs k hk
  have h7 := ha.2
  rw [hI.2 k hk]
  split <;> omega
theorem lp_mlik2 {d : Nat} {Q : ab_Q} {h0 : ab_H} {A B : Nat → Int} {n y a : Nat} {x : Int} (hA : rowOK A) (hB : rowOK B) (hAe : ∀ i, i < 21 → wv h0 219 i = A i) (hBe : ∀ i, i < 21 → wv h0 218 (21 * n + i) = B i) (hz : ∀ k, k < 21 → wv h0 220 k = 0) (hn : n ≤ 20) (ha : a < 21) (K : ∀ h', apG A B 220 0 h0 h' (a + 1) 0 → ab_X (d + 4) mX12_likely 185 [(0, .ref 200), (2, .int (iI x)), (3, .int (iI (y : Int))), (4, .int (iI (n : Int))), (5, .int (iI (a : Int)))] [] h' Q) : ∀ (nn : Nat) (b : Nat) (h : ab_H), 21 - a - b = nn → (a + b ≤ 21) → (apG A B 220 0 h0 h a b) → ab_X (d + 4) mX12_likely 131 [(0, .ref 200), (2, .int (iI x)), (3, .int (iI (y : Int))), (4, .int (iI (n : Int))), (5, .int (iI (a : Int))), (6, .int (iI (b : Int)))] [] h Q := by
  intro nn
  induction nn using Nat.strongRecOn with
  | ind nn ih =>
  intro b h hnn h2 hI
  refine ab_iload (k := 4) dX12_likely_131 rfl ?_
  refine ab_iload (k := 5) dX12_likely_133 rfl ?_
  refine z_iadd dX12_likely_135 ?_
  refine z_is (y := ((a + b : Nat) : Int)) (by omega) ?_
  refine z_bipush dX12_likely_136 (by decide) ?_
  refine z_icmp_gt (tgt := 185) dX12_likely_138 (by decide) (by omega) (by decide) (fun c138 => ?_) (fun c138 => ?_)
  · skip
    refine ab_sub (ls' := [(0, .ref 200), (2, .int (iI x)), (3, .int (iI (y : Int))), (4, .int (iI (n : Int))), (5, .int (iI (a : Int)))]) (ks := [0, 1, 2, 3, 4]) rfl ?_
    exact K h (apG_next hI (by omega))
  · skip
    have hai := hA.b ha
    have pb := pr_b (hA.b ha) (hB.b (show b < 21 by omega))
    have sb := apG_b hA hB ha hz hI (k := a + b) (by omega)
    refine ab_aload_n (k := 0) dX12_likely_141 rfl rfl ?_
    refine z_getP (b := 220) dX12_likely_142 fX12_87 rfl rfl rfl ?_
    refine ab_iload (k := 4) dX12_likely_145 rfl ?_
    refine ab_iload (k := 5) dX12_likely_147 rfl ?_
    refine z_iadd dX12_likely_149 ?_
    refine z_is (y := ((a + b : Nat) : Int)) (by omega) ?_
    refine ab_dup2 dX12_likely_150 rfl rfl ?_
    refine z_lald dX12_likely_151 rfl (by omega) (by omega) ?_
    simp only [Int.toNat_natCast]
    have b1 := wv_L h 220 (a + b)
    refine ab_aload_n (k := 0) dX12_likely_152 rfl rfl ?_
    refine z_getP (b := 219) dX12_likely_153 fX12_84 rfl rfl rfl ?_
    refine ab_iload (k := 4) dX12_likely_156 rfl ?_
    refine z_lald dX12_likely_158 rfl (by omega) (by omega) ?_
    simp only [Int.toNat_natCast]
    refine z_isl (y := A a) ((hI.1.2.1 219 a (by decide)).trans (hAe a (by omega))) ?_
    refine ab_aload_n (k := 0) dX12_likely_159 rfl rfl ?_
    refine z_getP (b := 218) dX12_likely_160 fX12_81 rfl rfl rfl ?_
    refine z_bipush dX12_likely_163 (by decide) ?_
    refine ab_iload (k := 3) dX12_likely_165 rfl ?_
    refine z_imul dX12_likely_167 ?_
    refine ab_iload (k := 5) dX12_likely_168 rfl ?_
    refine z_iadd dX12_likely_170 ?_
    refine z_is (y := ((21 * n + b : Nat) : Int)) (by omega) ?_
    refine z_lald dX12_likely_171 rfl (by omega) (by omega) ?_
    simp only [Int.toNat_natCast]
    refine z_isl (y := B b) ((hI.1.2.1 218 _ (by decide)).trans (hBe b (by omega))) ?_
    refine z_lmul dX12_likely_172 ?_
    refine z_ldc2 (v := 1000000000) dX12_likely_173 qX12_388 (by decide) ?_
    refine z_ldiv dX12_likely_176 (by omega) (by omega) (by omega) ?_
    refine z_ladd dX12_likely_177 ?_
    refine z_last dX12_likely_178 rfl (by omega) (by omega) ?_
    simp only [Int.toNat_natCast]
    refine z_iinc (k := 5) (v := (b : Int) + 1) (ls' := [(6, .int (iI ((b : Int) + 1))), (0, .ref 200), (2, .int (iI x)), (3, .int (iI (y : Int))), (4, .int (iI (n : Int))), (5, .int (iI (a : Int)))]) dX12_likely_179 rfl rfl (by decide) rfl ?_
    refine ab_goto (tgt := 131) dX12_likely_182 (by decide) ?_
    refine ab_sub (ls' := [(0, .ref 200), (2, .int (iI x)), (3, .int (iI (y : Int))), (4, .int (iI (n : Int))), (5, .int (iI (a : Int))), (6, .int (iI ((b : Int) + 1)))]) (ks := [1, 2, 3, 4, 5, 0]) rfl ?_
    exact ih _ (by omega) (b + 1) _ rfl (by omega) (apG_step hI rfl rfl (by omega))
theorem lp_mlik1 {d : Nat} {Q : ab_Q} {h0 : ab_H} {A B : Nat → Int} {n y : Nat} {x : Int} (hA : rowOK A) (hB : rowOK B) (hAe : ∀ i, i < 21 → wv h0 219 i = A i) (hBe : ∀ i, i < 21 → wv h0 218 (21 * n + i) = B i) (hz : ∀ k, k < 21 → wv h0 220 k = 0) (hn : n ≤ 20) (K : ∀ h', sm [220] h0 h' → (∀ k, k < 21 → wv h' 220 k = aP A B 0 k) → ab_X (d + 4) mX12_likely 191 [(0, .ref 200), (2, .int (iI x)), (3, .int (iI (y : Int))), (4, .int (iI (n : Int)))] [] h' Q) : ∀ (nn : Nat) (a : Nat) (h : ab_H), 21 - a = nn → (a ≤ 21) → (apG A B 220 0 h0 h a 0) → ab_X (d + 4) mX12_likely 121 [(0, .ref 200), (2, .int (iI x)), (3, .int (iI (y : Int))), (4, .int (iI (n : Int))), (5, .int (iI (a : Int)))] [] h Q := by
  intro nn
  induction nn using Nat.strongRecOn with
  | ind nn ih =>
  intro a h hnn h2 hI
  refine ab_iload (k := 4) dX12_likely_121 rfl ?_
  refine z_bipush dX12_likely_123 (by decide) ?_
  refine z_icmp_gt (tgt := 191) dX12_likely_125 (by decide) (by omega) (by decide) (fun c125 => ?_) (fun c125 => ?_)
  · skip
    refine ab_sub (ls' := [(0, .ref 200), (2, .int (iI x)), (3, .int (iI (y : Int))), (4, .int (iI (n : Int)))]) (ks := [0, 1, 2, 3]) rfl ?_
    have e : a = 21 := by omega
    subst e
    exact K h hI.1 (fun k hk => by rw [hI.2 k hk, hz k hk, if_neg (by omega)]; unfold aP; omega)
  · skip
    refine z_iconst dX12_likely_128 ?_
    refine ab_istore (ls' := [(6, .int (iI 0)), (0, .ref 200), (2, .int (iI x)), (3, .int (iI (y : Int))), (4, .int (iI (n : Int))), (5, .int (iI (a : Int)))]) dX12_likely_129 (by decide) rfl ?_
    refine ab_sub (ls' := [(0, .ref 200), (2, .int (iI x)), (3, .int (iI (y : Int))), (4, .int (iI (n : Int))), (5, .int (iI (a : Int))), (6, .int (iI 0))]) (ks := [1, 2, 3, 4, 5, 0]) rfl ?_
    refine lp_mlik2 (a := a) hA hB hAe hBe hz hn (by omega) (fun h' hI' => ?_) _ 0 h rfl (by omega) hI
    refine z_iinc (k := 4) (v := (a : Int) + 1) (ls' := [(5, .int (iI ((a : Int) + 1))), (0, .ref 200), (2, .int (iI x)), (3, .int (iI (y : Int))), (4, .int (iI (n : Int)))]) dX12_likely_185 rfl rfl (by decide) rfl ?_
    refine ab_goto (tgt := 121) dX12_likely_188 (by decide) ?_
    refine ab_sub (ls' := [(0, .ref 200), (2, .int (iI x)), (3, .int (iI (y : Int))), (4, .int (iI (n : Int))), (5, .int (iI ((a : Int) + 1)))]) (ks := [1, 2, 3, 4, 0]) rfl ?_
    exact ih _ (by omega) (a + 1) h' rfl (by omega) hI'
theorem lp_mlik0 {d : Nat} {Q : ab_Q} {h0 : ab_H} {n y : Nat} {x : Int} (K : ∀ h', clI 220 h0 h' 21 → ab_X (d + 4) mX12_likely 118 [(0, .ref 200), (2, .int (iI x)), (3, .int (iI (y : Int))), (4, .int (iI (n : Int)))] [] h' Q) : ∀ (nn : Nat) (k : Nat) (h : ab_H), 21 - k = nn → (k ≤ 21) → (clI 220 h0 h k) → ab_X (d + 4) mX12_likely 97 [(0, .ref 200), (2, .int (iI x)), (3, .int (iI (y : Int))), (4, .int (iI (n : Int))), (5, .int (iI (k : Int)))] [] h Q := by
  intro nn
  induction nn using Nat.strongRecOn with
  | ind nn ih =>
  intro k h hnn h2 hI
  refine ab_iload (k := 4) dX12_likely_97 rfl ?_
  refine z_bipush dX12_likely_99 (by decide) ?_
  refine z_icmp_gt (tgt := 118) dX12_likely_101 (by decide) (by omega) (by decide) (fun c101 => ?_) (fun c101 => ?_)
  · skip
    refine ab_sub (ls' := [(0, .ref 200), (2, .int (iI x)), (3, .int (iI (y : Int))), (4, .int (iI (n : Int)))]) (ks := [0, 1, 2, 3]) rfl ?_
    have e : k = 21 := by omega
    subst e
    exact K h hI
  · skip
    refine ab_aload_n (k := 0) dX12_likely_104 rfl rfl ?_
    refine z_getP (b := 220) dX12_likely_105 fX12_87 rfl rfl rfl ?_
    refine ab_iload (k := 4) dX12_likely_108 rfl ?_
    refine z_lconst (v := 0) dX12_likely_110 (by decide) ?_
    refine z_last dX12_likely_111 rfl (by omega) (by omega) ?_
    simp only [Int.toNat_natCast]
    refine z_iinc (k := 4) (v := (k : Int) + 1) (ls' := [(5, .int (iI ((k : Int) + 1))), (0, .ref 200), (2, .int (iI x)), (3, .int (iI (y : Int))), (4, .int (iI (n : Int)))]) dX12_likely_112 rfl rfl (by decide) rfl ?_
    refine ab_goto (tgt := 97) dX12_likely_115 (by decide) ?_
    refine ab_sub (ls' := [(0, .ref 200), (2, .int (iI x)), (3, .int (iI (y : Int))), (4, .int (iI (n : Int))), (5, .int (iI ((k : Int) + 1)))]) (ks := [1, 2, 3, 4, 0]) rfl ?_
    exact ih _ (by omega) (k + 1) _ rfl (by omega) (clI_step hI)
def cyI (a b : Nat) (h0 h : ab_H) (y : Nat) : Prop := sm [a] h0 h ∧ ∀ k, wv h a k = if k < y then wv h0 b k else wv h0 a k
theorem cyI_step {a b : Nat} {h0 h : ab_H} {y : Nat} {x : Int} (hI : cyI a b h0 h y) (hx : x = wv h0 b y) : cyI a b h0 (wp h a y x) (y + 1) := by
  subst hx
  refine ⟨hI.1.trans (sm_wp (by simp)), fun k => ?_⟩
  rw [wv_wp (wv_L _ _ _), hI.2 k]
  by_cases e : k = y
  · subst e; rw [if_pos ⟨rfl, rfl⟩, if_pos (by omega)]
  · rw [if_neg (fun q => e q.2)]
    by_cases f : k < y
    · rw [if_pos f, if_pos (by omega)]
    · rw [if_neg f, if_neg (by omega)]
theorem lp_mlik3 {d : Nat} {Q : ab_Q} {h0 : ab_H} {n y : Nat} {x : Int} (K : ∀ h', cyI 219 220 h0 h' 21 → ab_X (d + 4) mX12_likely 221 [(0, .ref 200), (2, .int (iI x)), (3, .int (iI (y : Int))), (4, .int (iI (n : Int)))] [] h' Q) : ∀ (nn : Nat) (k : Nat) (h : ab_H), 21 - k = nn → (k ≤ 21) → (cyI 219 220 h0 h k) → ab_X (d + 4) mX12_likely 194 [(0, .ref 200), (2, .int (iI x)), (3, .int (iI (y : Int))), (4, .int (iI (n : Int))), (5, .int (iI (k : Int)))] [] h Q := by
  intro nn
  induction nn using Nat.strongRecOn with
  | ind nn ih =>
  intro k h hnn h2 hI
  refine ab_iload (k := 4) dX12_likely_194 rfl ?_
  refine z_bipush dX12_likely_196 (by decide) ?_
  refine z_icmp_gt (tgt := 221) dX12_likely_198 (by decide) (by omega) (by decide) (fun c198 => ?_) (fun c198 => ?_)
  · skip
    refine ab_sub (ls' := [(0, .ref 200), (2, .int (iI x)), (3, .int (iI (y : Int))), (4, .int (iI (n : Int)))]) (ks := [0, 1, 2, 3]) rfl ?_
    have e : k = 21 := by omega
    subst e
    exact K h hI
  · skip
    refine ab_aload_n (k := 0) dX12_likely_201 rfl rfl ?_
    refine z_getP (b := 219) dX12_likely_202 fX12_84 rfl rfl rfl ?_
    refine ab_iload (k := 4) dX12_likely_205 rfl ?_
    refine ab_aload_n (k := 0) dX12_likely_207 rfl rfl ?_
    refine z_getP (b := 220) dX12_likely_208 fX12_87 rfl rfl rfl ?_
    refine ab_iload (k := 4) dX12_likely_211 rfl ?_
    refine z_lald dX12_likely_213 rfl (by omega) (by omega) ?_
    simp only [Int.toNat_natCast]
    refine z_isl (y := wv h0 220 k) (hI.1.2.1 220 k (by decide)) ?_
    refine z_last dX12_likely_214 rfl (by omega) (by omega) ?_
    simp only [Int.toNat_natCast]
    refine z_iinc (k := 4) (v := (k : Int) + 1) (ls' := [(5, .int (iI ((k : Int) + 1))), (0, .ref 200), (2, .int (iI x)), (3, .int (iI (y : Int))), (4, .int (iI (n : Int)))]) dX12_likely_215 rfl rfl (by decide) rfl ?_
    refine ab_goto (tgt := 194) dX12_likely_218 (by decide) ?_
    refine ab_sub (ls' := [(0, .ref 200), (2, .int (iI x)), (3, .int (iI (y : Int))), (4, .int (iI (n : Int))), (5, .int (iI ((k : Int) + 1)))]) (ks := [1, 2, 3, 4, 0]) rfl ?_
    exact ih _ (by omega) (k + 1) _ rfl (by omega) (cyI_step hI rfl)
theorem lp_mlik {d : Nat} {Q : ab_Q} {h0 : ab_H} {n L : Nat} {x : Int} (hn : zv h0 200 32 = n) (hn2 : n ≤ 20) (hL2 : 1 ≤ L ∧ L ≤ 9) (hx : 0 ≤ x ∧ x ≤ 20) (hO : otM h0 L 21) (K : ∀ h', sm [219, 220] h0 h' → Q (some (.long (lL (fT (jOp L) j0 (gAt (mfr h0 n)) n x.toNat)))) h') : ∀ (nn : Nat) (y : Nat) (h : ab_H), n - y = nn → (y ≤ n) → (sm [219, 220] h0 h ∧ ∀ k, k < 21 → wv h 219 k = fT (jOp L) j0 (gAt (mfr h0 n)) y k) → ab_X (d + 4) mX12_likely 71 [(0, .ref 200), (2, .int (iI x)), (3, .int (iI (y : Int)))] [] h Q := by
  intro nn
  induction nn using Nat.strongRecOn with
  | ind nn ih =>
  intro y h hnn h2 hI
  refine ab_iload_n (k := 2) dX12_likely_71 rfl rfl ?_
  refine ab_aload_n (k := 0) dX12_likely_72 rfl rfl ?_
  refine z_getI dX12_likely_73 fX12_290 rfl (Or.inl rfl) ?_
  refine z_is (y := (n : Int)) ((hI.1.1 200 32 (by decide)).trans hn) ?_
  refine z_icmp_ge (tgt := 227) dX12_likely_76 (by decide) (by omega) (by omega) (fun c76 => ?_) (fun c76 => ?_)
  · skip
    refine ab_aload_n (k := 0) dX12_likely_227 rfl rfl ?_
    refine z_getP (b := 219) dX12_likely_228 fX12_84 rfl rfl rfl ?_
    refine ab_iload_n (k := 1) dX12_likely_231 rfl rfl ?_
    refine z_lald dX12_likely_232 rfl (by omega) (by omega) ?_
    have b1 := wv_L h 219 x.toNat
    refine z_lret dX12_likely_233 rfl ?_
    have e : y = n := by omega
    subst e
    rw [hI.2 x.toNat (by omega)]
    exact K h hI.1
  · skip
    refine ab_aload_n (k := 0) dX12_likely_79 rfl rfl ?_
    refine ab_iload_n (k := 2) dX12_likely_80 rfl rfl ?_
    refine ab_callV (As := [.int (iI (y : Int))]) (rest := []) dX12_likely_81 lX12_379 rfl (Nat.le_of_ble_eq_true rfl) (Nat.le_of_ble_eq_true rfl) rfl ?_
    refine c_gapAt (n := n) ((hI.1.1 200 32 (by decide)).trans hn) hn2 (by omega) ?_
    have emf : mfr h n = mfr h0 n := funext (fun t => by unfold mfr; rw [hI.1.1 211 t (by decide)])
    rw [emf]
    obtain ⟨z, hz⟩ : ∃ z : Nat, z = gAt (mfr h0 n) y := ⟨_, rfl⟩
    rw [← hz]
    have hz20 : z ≤ 20 := by rw [hz]; exact gAt_n hn2
    show ab_X (d + 4) mX12_likely 84 [(0, .ref 200), (2, .int (iI x)), (3, .int (iI (y : Int)))] [.int (iI (z : Int))] h _
    refine ab_istore (ls' := [(4, .int (iI (z : Int))), (0, .ref 200), (2, .int (iI x)), (3, .int (iI (y : Int)))]) dX12_likely_84 (by decide) rfl ?_
    refine ab_iload (k := 0) dX12_likely_86 rfl ?_
    refine z_if_ne (tgt := 94) dX12_likely_88 (by decide) (by omega) (fun c88 => ?_) (fun c88 => ?_)
    · skip
      refine z_iconst dX12_likely_94 ?_
      refine ab_istore (ls' := [(5, .int (iI 0)), (4, .int (iI (z : Int))), (0, .ref 200), (2, .int (iI x)), (3, .int (iI (y : Int)))]) dX12_likely_95 (by decide) rfl ?_
      refine ab_sub (ls' := [(0, .ref 200), (2, .int (iI x)), (3, .int (iI (y : Int))), (4, .int (iI (z : Int))), (5, .int (iI 0))]) (ks := [2, 3, 4, 1, 0]) rfl ?_
      refine lp_mlik0 (fun h1 hc1 => ?_) _ 0 h rfl (by omega) ⟨sm.refl, fun k => by rw [if_neg (by omega)]⟩
      refine z_iconst dX12_likely_118 ?_
      refine ab_istore (ls' := [(5, .int (iI 0)), (0, .ref 200), (2, .int (iI x)), (3, .int (iI (y : Int))), (4, .int (iI (z : Int)))]) dX12_likely_119 (by decide) rfl ?_
      refine ab_sub (ls' := [(0, .ref 200), (2, .int (iI x)), (3, .int (iI (y : Int))), (4, .int (iI (z : Int))), (5, .int (iI 0))]) (ks := [1, 2, 3, 4, 0]) rfl ?_
      refine lp_mlik1 (A := fT (jOp L) j0 (gAt (mfr h0 n)) y) (B := oTb L 21 z) (fT_ok hL2.1 y (fun t ht => gAt_n hn2)) (oTb_ok hL2.1 21 (by omega) z (by omega)).1 (fun i hi => (hc1.1.2.1 219 i (by decide)).trans (hI.2 i hi)) (fun i hi => (hc1.1.2.1 218 _ (by decide)).trans ((hI.1.2.1 218 _ (by decide)).trans (hO z (by omega) i hi))) (fun k hk => by rw [hc1.2 k, if_pos hk]) hz20 (fun h2 hs2 hw2 => ?_) _ 0 h1 rfl (by omega) ⟨sm.refl, fun k hk => by rw [if_neg (by omega)]; show _ = _ + (0 : Int) + 0; omega⟩
      refine z_iconst dX12_likely_191 ?_
      refine ab_istore (ls' := [(5, .int (iI 0)), (0, .ref 200), (2, .int (iI x)), (3, .int (iI (y : Int))), (4, .int (iI (z : Int)))]) dX12_likely_192 (by decide) rfl ?_
      refine ab_sub (ls' := [(0, .ref 200), (2, .int (iI x)), (3, .int (iI (y : Int))), (4, .int (iI (z : Int))), (5, .int (iI 0))]) (ks := [1, 2, 3, 4, 0]) rfl ?_
      refine lp_mlik3 (fun h4 hc4 => ?_) _ 0 h2 rfl (by omega) ⟨sm.refl, fun k => by rw [if_neg (by omega)]⟩
      refine z_iinc (k := 2) (v := (y : Int) + 1) (ls' := [(3, .int (iI ((y : Int) + 1))), (0, .ref 200), (2, .int (iI x)), (4, .int (iI (z : Int)))]) dX12_likely_221 rfl rfl (by decide) rfl ?_
      refine ab_goto (tgt := 71) dX12_likely_224 (by decide) ?_
      refine ab_sub (ls' := [(0, .ref 200), (2, .int (iI x)), (3, .int (iI ((y : Int) + 1)))]) (ks := [1, 2, 0]) rfl ?_
      refine ih _ (by omega) (y + 1) h4 rfl (by omega) ⟨((hI.1.trans (hc1.1.mono (by decide))).trans (hs2.mono (by decide))).trans (hc4.1.mono (by decide)), fun k hk => ?_⟩
      rw [hc4.2 k, if_pos hk, hw2 k hk, fT_s]
      unfold jOp
      rw [if_neg (by omega), ← hz]
    · skip
      refine ab_goto (tgt := 221) dX12_likely_91 (by decide) ?_
      refine z_iinc (k := 3) (v := (y : Int) + 1) (ls' := [(3, .int (iI ((y : Int) + 1))), (4, .int (iI (z : Int))), (0, .ref 200), (2, .int (iI x))]) dX12_likely_221 rfl rfl (by decide) rfl ?_
      refine ab_goto (tgt := 71) dX12_likely_224 (by decide) ?_
      refine ab_sub (ls' := [(0, .ref 200), (2, .int (iI x)), (3, .int (iI ((y : Int) + 1)))]) (ks := [2, 3, 0]) rfl ?_
      refine ih _ (by omega) (y + 1) h rfl (by omega) ⟨hI.1, fun k hk => ?_⟩
      rw [hI.2 k hk, fT_s]
      unfold jOp
      rw [if_pos (by omega)]
def jnI (h0 h : ab_H) (y : Nat) : Prop := sm [219] h0 h ∧ ∀ k, wv h 219 k = if k < y then j0 k else wv h0 219 k
theorem jnI_step {h0 h : ab_H} {y : Nat} {x : Int} (hI : jnI h0 h y) (hx : x = j0 y) (hL : inL x) : jnI h0 (wp h 219 y x) (y + 1) := by
  refine ⟨hI.1.trans (sm_wp (by simp)), fun k => ?_⟩
  rw [wv_wp hL, hI.2 k]
  by_cases e : k = y
  · subst e; rw [if_pos ⟨rfl, rfl⟩, if_pos (by omega), hx]
  · rw [if_neg (fun q => e q.2)]
    by_cases f : k < y
    · rw [if_pos f, if_pos (by omega)]
    · rw [if_neg f, if_neg (by omega)]
theorem lp_mlik9 {d : Nat} {Q : ab_Q} {h0 : ab_H} {x : Int} (K : ∀ h', jnI h0 h' 21 → ab_X (d + 4) mX12_likely 69 [(0, .ref 200), (2, .int (iI x))] [] h' Q) : ∀ (nn : Nat) (k : Nat) (h : ab_H), 21 - k = nn → (k ≤ 21) → (jnI h0 h k) → ab_X (d + 4) mX12_likely 40 [(0, .ref 200), (2, .int (iI x)), (3, .int (iI (k : Int)))] [] h Q := by
  intro nn
  induction nn using Nat.strongRecOn with
  | ind nn ih =>
  intro k h hnn h2 hI
  refine ab_iload_n (k := 2) dX12_likely_40 rfl rfl ?_
  refine z_bipush dX12_likely_41 (by decide) ?_
  refine z_icmp_gt (tgt := 69) dX12_likely_43 (by decide) (by omega) (by decide) (fun c43 => ?_) (fun c43 => ?_)
  · skip
    refine ab_sub (ls' := [(0, .ref 200), (2, .int (iI x))]) (ks := [0, 1]) rfl ?_
    have e : k = 21 := by omega
    subst e
    exact K h hI
  · skip
    refine ab_aload_n (k := 0) dX12_likely_46 rfl rfl ?_
    refine z_getP (b := 219) dX12_likely_47 fX12_84 rfl rfl rfl ?_
    refine ab_iload_n (k := 2) dX12_likely_50 rfl rfl ?_
    refine ab_iload_n (k := 2) dX12_likely_51 rfl rfl ?_
    refine z_if_ne (tgt := 61) dX12_likely_52 (by decide) (by omega) (fun c52 => ?_) (fun c52 => ?_)
    · skip
      refine z_lconst (v := 0) dX12_likely_61 (by decide) ?_
      refine z_last dX12_likely_62 rfl (by omega) (by omega) ?_
      simp only [Int.toNat_natCast]
      refine z_iinc (k := 2) (v := (k : Int) + 1) (ls' := [(3, .int (iI ((k : Int) + 1))), (0, .ref 200), (2, .int (iI x))]) dX12_likely_63 rfl rfl (by decide) rfl ?_
      refine ab_goto (tgt := 40) dX12_likely_66 (by decide) ?_
      refine ab_sub (ls' := [(0, .ref 200), (2, .int (iI x)), (3, .int (iI ((k : Int) + 1)))]) (ks := [1, 2, 0]) rfl ?_
      first | exact ih _ (by omega) (k + 1) _ rfl (by omega) (jnI_step hI (by unfold j0; rw [if_pos (by omega)]) (by decide)) | exact ih _ (by omega) (k + 1) _ rfl (by omega) (jnI_step hI (by unfold j0; rw [if_neg (by omega)]) (by decide))
    · skip
      refine z_ldc2 (v := 1000000000) dX12_likely_55 qX12_388 (by decide) ?_
      refine ab_goto (tgt := 62) dX12_likely_58 (by decide) ?_
      refine z_last dX12_likely_62 rfl (by omega) (by omega) ?_
      simp only [Int.toNat_natCast]
      refine z_iinc (k := 2) (v := (k : Int) + 1) (ls' := [(3, .int (iI ((k : Int) + 1))), (0, .ref 200), (2, .int (iI x))]) dX12_likely_63 rfl rfl (by decide) rfl ?_
      refine ab_goto (tgt := 40) dX12_likely_66 (by decide) ?_
      refine ab_sub (ls' := [(0, .ref 200), (2, .int (iI x)), (3, .int (iI ((k : Int) + 1)))]) (ks := [1, 2, 0]) rfl ?_
      first | exact ih _ (by omega) (k + 1) _ rfl (by omega) (jnI_step hI (by unfold j0; rw [if_pos (by omega)]) (by decide)) | exact ih _ (by omega) (k + 1) _ rfl (by omega) (jnI_step hI (by unfold j0; rw [if_neg (by omega)]) (by decide))
theorem c_mlikely {d : Nat} {h : ab_H} {Q : ab_Q} {h9 : ab_H} {n s L : Nat} {x : Int} (e9 : zp h 200 0 0 = h9) (hn : zv h9 200 32 = n) (hn2 : n ≤ 20) (hs : s < 4) (hL : zv h9 207 (2 * s) = L) (hL2 : 1 ≤ L ∧ L ≤ 9) (hv : (s : Int) < zv h9 200 24) (hx : inR x ∧ 0 ≤ x) (k0 : ¬ x ≤ 20 → Q (some (.long (lL 0))) h9) (k1 : x ≤ 20 → ∀ h', sm [218, 219, 220] h9 h' → Q (some (.long (lL (fT (jOp L) j0 (gAt (mfr h9 n)) n x.toNat)))) h') : ab_X (d + 4) mX12_likely 0 (lv_args 0 [.ref 200, .int (iI (s : Int)), .int (iI x)]) [] h Q := by
  show ab_X (d + 4) mX12_likely 0 [(0, .ref 200), (1, .int (iI (s : Int))), (2, .int (iI x))] [] h Q
  refine ab_aload_n (k := 0) dX12_likely_0 rfl rfl ?_
  refine z_iconst dX12_likely_1 ?_
  refine z_putI dX12_likely_2 fX12_111 rfl rfl ?_
  rw [e9]
  refine ab_aload_n (k := 0) dX12_likely_5 rfl rfl ?_
  refine ab_iload_n (k := 1) dX12_likely_6 rfl rfl ?_
  refine ab_callV (As := [.int (iI (s : Int))]) (rest := []) dX12_likely_7 lX12_307 rfl (Nat.le_of_ble_eq_true rfl) (Nat.le_of_ble_eq_true rfl) rfl ?_
  refine c_misSort (by omega) (fun g7 => ?_) (fun g7 => ?_)
  · skip
    try simp only [Int.toNat_natCast] at g7
    have gL := g7
    show ab_X (d + 4) mX12_likely 10 [(0, .ref 200), (1, .int (iI (s : Int))), (2, .int (iI x))] [.int (iI 1)] h9 _
    refine z_if_eq (tgt := 17) dX12_likely_10 (by decide) (by decide) (fun c10 => absurd c10 (by decide)) (fun _ => ?_)
    refine ab_iload_n (k := 2) dX12_likely_13 rfl rfl ?_
    refine z_if_ge (tgt := 21) dX12_likely_14 (by decide) (by omega) (fun c14 => ?_) (fun c14 => ?_)
    · skip
      refine ab_iload_n (k := 2) dX12_likely_21 rfl rfl ?_
      refine z_bipush dX12_likely_22 (by decide) ?_
      refine z_icmp_le (tgt := 29) dX12_likely_24 (by decide) (by omega) (by decide) (fun c24 => ?_) (fun c24 => ?_)
      · skip
        refine ab_aload_n (k := 0) dX12_likely_29 rfl rfl ?_
        refine ab_aload_n (k := 0) dX12_likely_30 rfl rfl ?_
        refine ab_iload_n (k := 1) dX12_likely_31 rfl rfl ?_
        refine ab_callV (As := [.int (iI (s : Int))]) (rest := [.ref 200]) dX12_likely_32 lX12_312 rfl (Nat.le_of_ble_eq_true rfl) (Nat.le_of_ble_eq_true rfl) rfl ?_
        refine c_mlengthOf (by omega) ?_
        have bl32 := zv_R h9 207 (2 * s)
        show ab_X (d + 4) mX12_likely 35 [(0, .ref 200), (1, .int (iI (s : Int))), (2, .int (iI x))] [.int (iI (zv h9 207 (2 * s))), .ref 200] h9 _
        refine z_is (y := (L : Int)) hL ?_
        refine ab_callV (As := [.int (iI (L : Int))]) (rest := []) dX12_likely_35 lX12_390 rfl (Nat.le_of_ble_eq_true rfl) (Nat.le_of_ble_eq_true rfl) rfl ?_
        refine c_layOdds (l := L) hL2.1 hL2.2 (fun h1 hs1 hO1 => ?_)
        show ab_X (d + 4) mX12_likely 38 [(0, .ref 200), (1, .int (iI (s : Int))), (2, .int (iI x))] [] h1 _
        refine z_iconst dX12_likely_38 ?_
        refine ab_istore_n (ls' := [(3, .int (iI 0)), (0, .ref 200), (1, .int (iI (s : Int))), (2, .int (iI x))]) dX12_likely_39 rfl (by decide) rfl ?_
        refine ab_sub (ls' := [(0, .ref 200), (2, .int (iI x)), (3, .int (iI 0))]) (ks := [1, 3, 0]) rfl ?_
        refine lp_mlik9 (fun h2 hj => ?_) _ 0 h1 rfl (by omega) ⟨sm.refl, fun k => by rw [if_neg (by omega)]⟩
        refine z_iconst dX12_likely_69 ?_
        refine ab_istore_n (ls' := [(3, .int (iI 0)), (0, .ref 200), (2, .int (iI x))]) dX12_likely_70 rfl (by decide) rfl ?_
        refine ab_sub (ls' := [(0, .ref 200), (2, .int (iI x)), (3, .int (iI 0))]) (ks := [1, 2, 0]) rfl ?_
        have emf : mfr h2 n = mfr h9 n := funext (fun t => by unfold mfr; rw [hj.1.1 211 t (by decide), hs1.1 211 t (by decide)])
        refine lp_mlik (h0 := h2) (n := n) (L := L) ((hj.1.1 200 32 (by decide)).trans ((hs1.1 200 32 (by decide)).trans hn)) hn2 hL2 (by omega) (fun z hz k hk => (hj.1.2.1 218 _ (by decide)).trans (hO1 z hz k hk)) (fun h3 hs3 => ?_) _ 0 h2 rfl (by omega) ⟨sm.refl, fun k hk => by rw [hj.2 k, if_pos hk]; rfl⟩
        rw [emf]
        exact k1 (by omega) h3 (((hs1.mono (by decide)).trans (hj.1.mono (by decide))).trans (hs3.mono (by decide)))
      · skip
        refine z_lconst (v := 0) dX12_likely_27 (by decide) ?_
        refine z_lret dX12_likely_28 rfl ?_
        first | exact k0 (by omega) | exact absurd gL (by omega) | exact absurd hx.2 (by omega)
    · skip
      refine z_ldc2 (v := (-1)) dX12_likely_17 qX12_386 (by decide) ?_
      refine z_lret dX12_likely_20 rfl ?_
      first | exact k0 (by omega) | exact absurd gL (by omega) | exact absurd hx.2 (by omega)
  · skip
    try simp only [Int.toNat_natCast] at g7
    have gL := g7
    show ab_X (d + 4) mX12_likely 10 [(0, .ref 200), (1, .int (iI (s : Int))), (2, .int (iI x))] [.int (iI 0)] h9 _
    refine z_if_eq (tgt := 17) dX12_likely_10 (by decide) (by decide) (fun _ => ?_) (fun c10 => absurd c10 (by decide))
    refine z_ldc2 (v := (-1)) dX12_likely_17 qX12_386 (by decide) ?_
    refine z_lret dX12_likely_20 rfl ?_
    first | exact k0 (by omega) | exact absurd gL (by omega) | exact absurd hx.2 (by omega)
theorem c_mlikely0 {d : Nat} {h : ab_H} {Q : ab_Q} {h9 : ab_H} {s x : Int} (e9 : zp h 200 0 0 = h9) (hs : inR s) (hx : inR x) (hno : ¬ ((0 ≤ s ∧ s < zv h9 200 24) ∧ 0 ≤ x)) (K : Q (some (.long (lL (-1)))) h9) : ab_X (d + 4) mX12_likely 0 (lv_args 0 [.ref 200, .int (iI s), .int (iI x)]) [] h Q := by
  show ab_X (d + 4) mX12_likely 0 [(0, .ref 200), (1, .int (iI s)), (2, .int (iI x))] [] h Q
  refine ab_aload_n (k := 0) dX12_likely_0 rfl rfl ?_
  refine z_iconst dX12_likely_1 ?_
  refine z_putI dX12_likely_2 fX12_111 rfl rfl ?_
  rw [e9]
  refine ab_aload_n (k := 0) dX12_likely_5 rfl rfl ?_
  refine ab_iload_n (k := 1) dX12_likely_6 rfl rfl ?_
  refine ab_callV (As := [.int (iI s)]) (rest := []) dX12_likely_7 lX12_307 rfl (Nat.le_of_ble_eq_true rfl) (Nat.le_of_ble_eq_true rfl) rfl ?_
  refine c_misSort (by omega) (fun g7 => ?_) (fun g7 => ?_)
  · skip
    try simp only [Int.toNat_natCast] at g7
    have gL := g7
    show ab_X (d + 4) mX12_likely 10 [(0, .ref 200), (1, .int (iI s)), (2, .int (iI x))] [.int (iI 1)] h9 _
    refine z_if_eq (tgt := 17) dX12_likely_10 (by decide) (by decide) (fun c10 => absurd c10 (by decide)) (fun _ => ?_)
    refine ab_iload_n (k := 2) dX12_likely_13 rfl rfl ?_
    refine z_if_ge (tgt := 21) dX12_likely_14 (by decide) (by omega) (fun c14 => ?_) (fun c14 => ?_)
    · skip
      refine ab_sub (ls' := [(0, .ref 200), (1, .int (iI s)), (2, .int (iI x))]) (ks := [0, 1, 2]) rfl ?_
      first | exact K | exact absurd hno (by omega)
    · skip
      refine z_ldc2 (v := (-1)) dX12_likely_17 qX12_386 (by decide) ?_
      refine z_lret dX12_likely_20 rfl ?_
      first | exact K | exact absurd hno (by omega)
  · skip
    try simp only [Int.toNat_natCast] at g7
    have gL := g7
    show ab_X (d + 4) mX12_likely 10 [(0, .ref 200), (1, .int (iI s)), (2, .int (iI x))] [.int (iI 0)] h9 _
    refine z_if_eq (tgt := 17) dX12_likely_10 (by decide) (by decide) (fun _ => ?_) (fun c10 => absurd c10 (by decide))
    refine z_ldc2 (v := (-1)) dX12_likely_17 qX12_386 (by decide) ?_
    refine z_lret dX12_likely_20 rfl ?_
    first | exact K | exact absurd hno (by omega)
