/-! WHERE a car stops: the model -/
def wout (fr : Nat → Bool) (p L y : Nat) : Bool := decide (fr y = true ∧ ¬ (p ≤ y ∧ y < p + L))
def gW (fr : Nat → Bool) (k hd : Int) (c : List (Int × Int)) (L n : Nat) (nc : Int) (p : Nat) : Int := if k = 1 then -(min (runl fr p : Int) (rr fr 40 (p + L) : Int)) else if k = 4 then -((pU (wout fr p L) L n).length : Int) else if k = 3 ∨ hd = -1 then -(p : Int) else wrt (lenv (p : Int) (L : Int) (runl fr p : Int) (rr fr 40 (p + L) : Int) nc) c 0 0 []
def lb (h : ab_H) : Prop := ∀ j, -1000000 ≤ zv h 204 j ∧ zv h 204 j ≤ 1000000
def DM (h h' : ab_H) : Prop := (∀ a j, a ≠ 200 → a ≠ 204 → zv h' a j = zv h a j) ∧ (∀ j, ¬ (8 ≤ j ∧ j ≤ 14) → ¬ j = 17 → zv h' 200 j = zv h 200 j) ∧ (lb h → lb h')
theorem DM.rf {h : ab_H} : DM h h := ⟨fun _ _ _ _ => rfl, fun _ _ _ => rfl, id⟩
theorem DM.tr {a b c : ab_H} (x : DM a b) (y : DM b c) : DM a c := ⟨fun p q r s => (y.1 p q r s).trans (x.1 p q r s), fun p q r => (y.2.1 p q r).trans (x.2.1 p q r), fun z => y.2.2 (x.2.2 z)⟩
def MRu (h : ab_H) (hd : Int) (c : List (Int × Int)) : Prop := ∃ (T : Nat → Int) (z p' : Nat), tx T z ∧ zv h 203 hd.toNat = z ∧ (∀ i, i < z → zv h 202 (160 * hd.toNat + i) = sby (T i)) ∧ pRu T z = (-1, p', c)
theorem MRu_D {h h' : ab_H} {hd : Int} {c : List (Int × Int)} (D : DM h h') (m : MRu h hd c) : MRu h' hd c := by
  obtain ⟨T, z, p', a, b, e, f⟩ := m
  exact ⟨T, z, p', a, (D.1 _ _ (by decide) (by decide)).trans b, fun i hi => (D.1 _ _ (by decide) (by decide)).trans (e i hi), f⟩
theorem mfr_out {h h' : ab_H} {p L n : Nat} {s : Int} (m : mstR h h' p L s) : mfr h' n = wout (mfr h n) p L := by
  funext y
  refine Bool.eq_iff_iff.mpr ?_
  unfold wout
  rw [mfr_iff, decide_eq_true_iff, mfr_iff, m.2.1 y]
  by_cases q : p ≤ y ∧ y < p + L
  · rw [if_pos q]; exact ⟨fun r => absurd r.2 (by omega), fun r => absurd q r.2⟩
  · rw [if_neg q]; exact ⟨fun r => ⟨r, q⟩, fun r => r.1⟩
theorem ga_back {h h1 h2 : ab_H} {p L n : Nat} {s : Int} (m : mstR h h1 p L s) (g : mgaR h1 h2 p n) (hpL : p + L ≤ n) (ha : ∀ y, p ≤ y → y < p + L → zv h 211 y = -1) (hr : ∀ y, y < n → zv h 211 y = p → zv h 211 p = p) (hs : zv h 212 p = -1) (hL : 1 ≤ L) : DM h h2 := by
  refine ⟨fun a j h0 h4 => ?_, fun j _ _ => ?_, fun l j => ?_⟩
  · by_cases e1 : a = 211
    · subst e1
      rw [g.2.1 j, m.2.1 j]
      by_cases q : p ≤ j ∧ j < p + L
      · rw [if_pos q, if_pos ⟨by omega, rfl⟩, ha j q.1 q.2]
      · rw [if_neg q]
        by_cases w : j < n ∧ zv h 211 j = p
        · have := hr j w.1 w.2
          rw [ha p (Nat.le_refl p) (by omega)] at this
          omega
        · rw [if_neg w]
    · by_cases e2 : a = 212
      · subst e2
        rw [g.2.2 j, m.2.2 j]
        by_cases q : j = p
        · rw [if_pos q, q, hs]
        · rw [if_neg q, if_neg q]
      · rw [g.1.1 a j (by simp [e1, e2]), m.1.1 a j (by simp [e1, e2])]
  · rw [g.1.1 200 j (by decide), m.1.1 200 j (by decide)]
  · rw [g.1.1 204 j (by decide), m.1.1 204 j (by decide)]; exact l j
def let5 (h : ab_H) (p l a b n : Int) : ab_H := zp (zp (zp (zp (zp h 204 112 p) 204 108 l) 204 98 a) 204 97 b) 204 110 n
theorem let5_o {h : ab_H} {p l a b n : Int} {x j : Nat} (hx : x ≠ 204) : zv (let5 h p l a b n) x j = zv h x j := by
  unfold let5; rw [zv_zp_a hx, zv_zp_a hx, zv_zp_a hx, zv_zp_a hx, zv_zp_a hx]
theorem let5_e {h : ab_H} {p l a b n : Int} (hp : inR p) (hl : inR l) (ha : inR a) (hb : inR b) (hn : inR n) {s : Int} (hs : ¬ li s = -1) : zv (let5 h p l a b n) 204 s.toNat = lenv p l a b n (li s).toNat := by
  unfold let5 li at *
  split
  · next e => subst e; rw [zv_zp_ne (by decide), zv_zp_ne (by decide), zv_zp_ne (by decide), zv_zp_ne (by decide)]; exact zv_zp_s hp
  · split
    · next e => subst e; rw [zv_zp_ne (by decide), zv_zp_ne (by decide), zv_zp_ne (by decide)]; exact zv_zp_s hl
    · split
      · next e => subst e; rw [zv_zp_ne (by decide), zv_zp_ne (by decide)]; exact zv_zp_s ha
      · split
        · next e => subst e; rw [zv_zp_ne (by decide)]; exact zv_zp_s hb
        · split
          · next e => subst e; exact zv_zp_s hn
          · next a b c d e => rw [if_neg a, if_neg b, if_neg c, if_neg d, if_neg e] at hs; exact absurd rfl hs
theorem let5_b {h : ab_H} {p l a b n : Int} (hp : -1000000 ≤ p ∧ p ≤ 1000000) (hl : -1000000 ≤ l ∧ l ≤ 1000000) (ha : -1000000 ≤ a ∧ a ≤ 1000000) (hb : -1000000 ≤ b ∧ b ≤ 1000000) (hn : -1000000 ≤ n ∧ n ≤ 1000000) (hh : lb h) : lb (let5 h p l a b n) := by
  intro j
  unfold let5
  rw [zv_zp (by omega), zv_zp (by omega), zv_zp (by omega), zv_zp (by omega), zv_zp (by omega)]
  have := hh j
  (repeat' split) <;> omega
theorem lenv_b {p l a b n : Int} (hp : -1000000 ≤ p ∧ p ≤ 1000000) (hl : -1000000 ≤ l ∧ l ≤ 1000000) (ha : -1000000 ≤ a ∧ a ≤ 1000000) (hb : -1000000 ≤ b ∧ b ≤ 1000000) (hn : -1000000 ≤ n ∧ n ≤ 1000000) (j : Nat) : -1000000 ≤ lenv p l a b n j ∧ lenv p l a b n j ≤ 1000000 := by
  unfold lenv
  (repeat' split) <;> omega
theorem DM_let {h : ab_H} {p l a b n : Int} (hp : -1000000 ≤ p ∧ p ≤ 1000000) (hl : -1000000 ≤ l ∧ l ≤ 1000000) (ha : -1000000 ≤ a ∧ a ≤ 1000000) (hb : -1000000 ≤ b ∧ b ≤ 1000000) (hn : -1000000 ≤ n ∧ n ≤ 1000000) : DM h (let5 h p l a b n) := ⟨fun x j _ h4 => let5_o h4, fun j _ _ => let5_o (by decide), fun q => let5_b hp hl ha hb hn q⟩
theorem DM_F {h h' : ab_H} (f : F11 h h') : DM h h' := ⟨fun a j h0 _ => f.1 a j h0, fun j a b => f.2 j a b, fun l j => by rw [f.1 204 j (by decide)]; exact l j⟩
theorem pU_le (fr : Nat → Bool) (L n : Nat) : (pU fr L n).length ≤ n := by
  have := List.length_filter_le (allf fr L) (List.range n)
  rw [List.length_range] at this; exact this
theorem c_worthOf {d : Nat} {h : ab_H} {Q : ab_Q} {n s L p : Nat} {k hd nc : Int} {c : List (Int × Int)}  (hn : zv h 200 32 = n) (hn2 : n ≤ 20) (hs : s < 4) (hL : zv h 207 (2 * s) = L) (hL2 : 1 ≤ L ∧ L ≤ 9) (hk : 1 ≤ k ∧ k ≤ 4) (hhd : zv h 200 33 = hd) (hhd2 : -1 ≤ hd ∧ hd < 4) (hR : 0 ≤ hd → MRu h hd c) (hnc : (cB (zv h 211) n : Int) = nc) (haf : allf (mfr h n) L p = true) (hr : ∀ y, y < n → zv h 211 y = p → zv h 211 p = p) (hsa : zv h 212 p = -1) (K : ∀ h', DM h h' → (-1000000 ≤ (gW (mfr h n) k hd c L n nc p) ∧ (gW (mfr h n) k hd c L n nc p) ≤ 1000000) → Q (some (.int (iI (gW (mfr h n) k hd c L n nc p)))) h') : ab_X (d + 35) mX12_worthOf 0 (lv_args 0 [.ref 200, .int (iI (s : Int)), .int (iI k), .int (iI (p : Int))]) [] h Q := by
  show ab_X (d + 35) mX12_worthOf 0 [(0, .ref 200), (1, .int (iI (s : Int))), (2, .int (iI k)), (3, .int (iI (p : Int)))] [] h Q
  have hpn := (List.mem_filter.mp (show p ∈ [p].filter (allf (mfr h n) L) from List.mem_filter.mpr ⟨List.mem_singleton.mpr rfl, haf⟩)).2
  have hal := allf_iff.mp haf
  have hpL : p + L ≤ n := by
    have := (mfr_iff.mp (hal (p + L - 1) (by omega) (by omega))).1
    omega
  have hA := runl_le (mfr h n) p
  obtain ⟨A, eA⟩ : ∃ A, A = runl (mfr h n) p := ⟨_, rfl⟩
  have hB := rr_le (mfr h n) 40 (p + L)
  obtain ⟨B, eB⟩ : ∃ B, B = rr (mfr h n) 40 (p + L) := ⟨_, rfl⟩
  rw [← eA] at hA
  rw [← eB] at hB
  have hncb := cB_le (zv h 211) n
  refine ab_aload_n (k := 0) dX12_worthOf_0 rfl rfl ?_
  refine ab_iload_n (k := 3) dX12_worthOf_1 rfl rfl ?_
  refine ab_callV (As := [.int (iI (p : Int))]) (rest := []) dX12_worthOf_2 lX12_321 rfl (Nat.le_of_ble_eq_true rfl) (Nat.le_of_ble_eq_true rfl) rfl ?_
  refine c_freeAhead hn hn2 (by omega) ?_
  rw [← eA]
  show ab_X (d + 35) mX12_worthOf 5 [(0, .ref 200), (1, .int (iI (s : Int))), (2, .int (iI k)), (3, .int (iI (p : Int)))] [.int (iI (A : Int))] h _
  refine ab_istore (ls' := [(4, .int (iI (A : Int))), (0, .ref 200), (1, .int (iI (s : Int))), (2, .int (iI k)), (3, .int (iI (p : Int)))]) dX12_worthOf_5 (by decide) rfl ?_
  refine ab_aload_n (k := 1) dX12_worthOf_7 rfl rfl ?_
  refine ab_iload_n (k := 4) dX12_worthOf_8 rfl rfl ?_
  refine ab_aload_n (k := 1) dX12_worthOf_9 rfl rfl ?_
  refine ab_iload_n (k := 2) dX12_worthOf_10 rfl rfl ?_
  refine ab_callV (As := [.int (iI (s : Int))]) (rest := [.int (iI (p : Int)), .ref 200]) dX12_worthOf_11 lX12_312 rfl (Nat.le_of_ble_eq_true rfl) (Nat.le_of_ble_eq_true rfl) rfl ?_
  refine c_mlengthOf (by omega) ?_
  rw [show zv h 207 (2 * ((s : Nat) : Int).toNat) = (L : Int) from hL]
  show ab_X (d + 35) mX12_worthOf 14 [(4, .int (iI (A : Int))), (0, .ref 200), (1, .int (iI (s : Int))), (2, .int (iI k)), (3, .int (iI (p : Int)))] [.int (iI (L : Int)), .int (iI (p : Int)), .ref 200] h _
  refine z_iadd dX12_worthOf_14 ?_
  refine ab_callV (As := [.int (iI ((p : Int) + (L : Int)))]) (rest := []) dX12_worthOf_15 lX12_324 rfl (Nat.le_of_ble_eq_true rfl) (Nat.le_of_ble_eq_true rfl) rfl ?_
  rw [show (p : Int) + (L : Int) = ((p + L : Nat) : Int) by omega]
  refine c_freeBehind hn hn2 (by omega) ?_
  rw [← eB]
  show ab_X (d + 35) mX12_worthOf 18 [(4, .int (iI (A : Int))), (0, .ref 200), (1, .int (iI (s : Int))), (2, .int (iI k)), (3, .int (iI (p : Int)))] [.int (iI (B : Int))] h _
  refine ab_istore (ls' := [(5, .int (iI (B : Int))), (4, .int (iI (A : Int))), (0, .ref 200), (1, .int (iI (s : Int))), (2, .int (iI k)), (3, .int (iI (p : Int)))]) dX12_worthOf_18 (by decide) rfl ?_
  refine ab_iload_n (k := 4) dX12_worthOf_20 rfl rfl ?_
  refine z_iconst dX12_worthOf_21 ?_
  refine z_icmp_ne (tgt := 34) dX12_worthOf_22 (by decide) (by omega) (by decide) (fun c22 => ?_) (fun c22 => ?_)
  · skip
    refine ab_iload_n (k := 4) dX12_worthOf_34 rfl rfl ?_
    refine z_iconst dX12_worthOf_35 ?_
    refine z_icmp_ne (tgt := 61) dX12_worthOf_36 (by decide) (by omega) (by decide) (fun c36 => ?_) (fun c36 => ?_)
    · skip
      refine ab_iload_n (k := 4) dX12_worthOf_61 rfl rfl ?_
      refine z_iconst dX12_worthOf_62 ?_
      refine z_icmp_eq (tgt := 74) dX12_worthOf_63 (by decide) (by omega) (by decide) (fun c63 => ?_) (fun c63 => ?_)
      · skip
        refine ab_iload_n (k := 5) dX12_worthOf_74 rfl rfl ?_
        refine z_ineg dX12_worthOf_75 ?_
        refine z_iret dX12_worthOf_76 rfl ?_
        first
        | (have e : gW (mfr h n) k hd c L n nc p = -(min (A : Int) (B : Int)) := by unfold gW; rw [if_pos (by omega), eA, eB]
           have z := K _ DM.rf (by rw [e]; omega)
           rw [e] at z; exact z)
        | (have e : gW (mfr h n) k hd c L n nc p = -((pU (wout (mfr h n) p L) L n).length : Int) := by unfold gW; rw [if_neg (by omega), if_pos (by omega)]
           have z := K _ (ga_back m1 m2 hpL (fun y a b => (mfr_iff.mp (hal y a b)).2) hr hsa hL2.1) (by rw [e]; omega)
           rw [e] at z; exact z)
        | (have e : gW (mfr h n) k hd c L n nc p = -(p : Int) := by unfold gW; rw [if_neg (by omega), if_neg (by omega), if_pos (by omega)]
           have z := K _ DM.rf (by rw [e]; omega)
           rw [e] at z; exact z)
      · skip
        refine ab_aload_n (k := 2) dX12_worthOf_66 rfl rfl ?_
        refine z_getI dX12_worthOf_67 fX12_64 rfl (Or.inl rfl) ?_
        refine z_is (y := hd) hhd ?_
        refine z_iconst dX12_worthOf_70 ?_
        refine z_icmp_ne (tgt := 77) dX12_worthOf_71 (by decide) (by omega) (by decide) (fun c71 => ?_) (fun c71 => ?_)
        · skip
          refine ab_sub (ls' := [(0, .ref 200), (1, .int (iI (s : Int))), (2, .int (iI k)), (3, .int (iI (p : Int))), (4, .int (iI (A : Int))), (5, .int (iI (B : Int)))]) (ks := [2, 3, 4, 5, 1, 0]) rfl ?_
          have ek : k = 2 := by omega
          subst ek
          obtain ⟨m, rfl⟩ : ∃ m : Nat, hd = m := ⟨hd.toNat, by omega⟩
          obtain ⟨T, z, p', ht, hz, hT, hRu⟩ := hR (by omega)
          rw [Int.toNat_natCast] at hz hT
          refine ab_aload_n (k := 0) dX12_worthOf_77 rfl rfl ?_
          refine z_getP (b := 204) dX12_worthOf_78 fX12_20 rfl rfl rfl ?_
          refine z_bipush dX12_worthOf_81 (by decide) ?_
          refine ab_iload_n (k := 3) dX12_worthOf_83 rfl rfl ?_
          refine z_iast dX12_worthOf_84 rfl (by omega) (by omega) ?_
          refine ab_aload_n (k := 0) dX12_worthOf_85 rfl rfl ?_
          refine z_getP (b := 204) dX12_worthOf_86 fX12_20 rfl rfl rfl ?_
          refine z_bipush dX12_worthOf_89 (by decide) ?_
          refine ab_aload_n (k := 0) dX12_worthOf_91 rfl rfl ?_
          refine ab_iload_n (k := 1) dX12_worthOf_92 rfl rfl ?_
          refine ab_callV (As := [.int (iI (s : Int))]) (rest := [.int (iI 108), .ref 204]) dX12_worthOf_93 lX12_312 rfl (Nat.le_of_ble_eq_true rfl) (Nat.le_of_ble_eq_true rfl) rfl ?_
          refine c_mlengthOf (by omega) ?_
          have bl93 := zv_R (zp h 204 112 (p : Int)) 207 (2 * s)
          show ab_X (d + 35) mX12_worthOf 96 [(0, .ref 200), (1, .int (iI (s : Int))), (2, .int (iI 2)), (3, .int (iI (p : Int))), (4, .int (iI (A : Int))), (5, .int (iI (B : Int)))] [.int (iI (zv (zp h 204 112 (p : Int)) 207 (2 * s))), .int (iI 108), .ref 204] (zp h 204 112 (p : Int)) _
          refine z_is (y := (L : Int)) ((zv_zp_a (by decide)).trans hL) ?_
          refine z_iast dX12_worthOf_96 rfl (by omega) (by omega) ?_
          refine ab_aload_n (k := 0) dX12_worthOf_97 rfl rfl ?_
          refine z_getP (b := 204) dX12_worthOf_98 fX12_20 rfl rfl rfl ?_
          refine z_bipush dX12_worthOf_101 (by decide) ?_
          refine ab_iload (k := 4) dX12_worthOf_103 rfl ?_
          refine z_iast dX12_worthOf_105 rfl (by omega) (by omega) ?_
          refine ab_aload_n (k := 0) dX12_worthOf_106 rfl rfl ?_
          refine z_getP (b := 204) dX12_worthOf_107 fX12_20 rfl rfl rfl ?_
          refine z_bipush dX12_worthOf_110 (by decide) ?_
          refine ab_iload (k := 5) dX12_worthOf_112 rfl ?_
          refine z_iast dX12_worthOf_114 rfl (by omega) (by omega) ?_
          refine ab_aload_n (k := 0) dX12_worthOf_115 rfl rfl ?_
          refine z_getP (b := 204) dX12_worthOf_116 fX12_20 rfl rfl rfl ?_
          refine z_bipush dX12_worthOf_119 (by decide) ?_
          refine ab_aload_n (k := 0) dX12_worthOf_121 rfl rfl ?_
          refine ab_callV (As := []) (rest := [.int (iI 110), .ref 204]) dX12_worthOf_122 lX12_339 rfl (Nat.le_of_ble_eq_true rfl) (Nat.le_of_ble_eq_true rfl) rfl ?_
          refine c_carMany (n := n) (by rw [zv_zp_a (by decide), zv_zp_a (by decide), zv_zp_a (by decide), zv_zp_a (by decide)]; exact hn) hn2 ?_
          show ab_X (d + 35) mX12_worthOf 125 [(0, .ref 200), (1, .int (iI (s : Int))), (2, .int (iI 2)), (3, .int (iI (p : Int))), (4, .int (iI (A : Int))), (5, .int (iI (B : Int)))] [.int (iI (cB (zv (zp (zp (zp (zp h 204 112 (p : Int)) 204 108 (L : Int)) 204 98 (A : Int)) 204 97 (B : Int)) 211) n : Int)), .int (iI 110), .ref 204] (zp (zp (zp (zp h 204 112 (p : Int)) 204 108 (L : Int)) 204 98 (A : Int)) 204 97 (B : Int)) _
          refine z_is (y := nc) (by rw [show zv (zp (zp (zp (zp h 204 112 (p : Int)) 204 108 (L : Int)) 204 98 (A : Int)) 204 97 (B : Int)) 211 = zv h 211 from funext (fun j => by rw [zv_zp_a (by decide), zv_zp_a (by decide), zv_zp_a (by decide), zv_zp_a (by decide)])]; exact hnc) ?_
          refine z_iast dX12_worthOf_125 rfl (by omega) (by omega) ?_
          refine ab_aload_n (k := 0) dX12_worthOf_126 rfl rfl ?_
          refine ab_aload_n (k := 0) dX12_worthOf_127 rfl rfl ?_
          refine z_getP (b := 202) dX12_worthOf_128 fX12_13 rfl rfl rfl ?_
          refine z_sipush dX12_worthOf_131 (by decide) ?_
          refine ab_aload_n (k := 0) dX12_worthOf_134 rfl rfl ?_
          refine z_getI dX12_worthOf_135 fX12_64 rfl (Or.inl rfl) ?_
          refine z_is (y := zv h 200 33) (((((zv_zp_a (by decide)).trans (zv_zp_a (by decide))).trans (zv_zp_a (by decide))).trans (zv_zp_a (by decide))).trans (zv_zp_a (by decide))) ?_
          refine z_is (y := (m : Int)) hhd ?_
          refine z_imul dX12_worthOf_138 ?_
          refine ab_aload_n (k := 0) dX12_worthOf_139 rfl rfl ?_
          refine z_getP (b := 203) dX12_worthOf_140 fX12_16 rfl rfl rfl ?_
          refine ab_aload_n (k := 0) dX12_worthOf_143 rfl rfl ?_
          refine z_getI dX12_worthOf_144 fX12_64 rfl (Or.inl rfl) ?_
          refine z_is (y := zv h 200 33) (((((zv_zp_a (by decide)).trans (zv_zp_a (by decide))).trans (zv_zp_a (by decide))).trans (zv_zp_a (by decide))).trans (zv_zp_a (by decide))) ?_
          refine z_is (y := (m : Int)) hhd ?_
          refine z_iald dX12_worthOf_147 rfl (by omega) (by omega) ?_
          simp only [Int.toNat_natCast]
          refine z_is (y := zv h 203 m) (((((zv_zp_a (by decide)).trans (zv_zp_a (by decide))).trans (zv_zp_a (by decide))).trans (zv_zp_a (by decide))).trans (zv_zp_a (by decide))) ?_
          have b1 := zv_R h 203 m
          refine ab_callV (As := [.ref 202, .int (iI (160 * (m : Int))), .int (iI (zv h 203 m))]) (rest := []) dX12_worthOf_148 lX12_276 rfl (Nat.le_of_ble_eq_true rfl) (Nat.le_of_ble_eq_true rfl) rfl ?_
          rw [show zv h 203 m = (z : Int) from hz, show (160 : Int) * (m : Int) = ((160 * m : Nat) : Int) by omega]
          refine c_mgo202 (h := let5 h (p : Int) (L : Int) (A : Int) (B : Int) nc) (T := T) (z := z) (b := 160 * m) (env := lenv (p : Int) (L : Int) (A : Int) (B : Int) nc) ht (by have := ht.1; omega) (fun i hi => (let5_o (by decide)).trans (hT i hi)) (fun x hx => ⟨let5_e (by omega) (by omega) (by omega) (by omega) (by omega) hx, lenv_b (by omega) (by omega) (by omega) (by omega) (by omega) _⟩) (fun g8 p2 c2 j2 F2 u2 v2 => ?_) (fun e8 w2 j2 n2 F2 u2 => ?_)
          · skip
            show ab_X (d + 35) mX12_worthOf 151 [(0, .ref 200), (1, .int (iI (s : Int))), (2, .int (iI 2)), (3, .int (iI (p : Int))), (4, .int (iI (A : Int))), (5, .int (iI (B : Int)))] [] g8 _
            refine ab_aload_n (k := 0) dX12_worthOf_151 rfl rfl ?_
            refine z_getI dX12_worthOf_152 fX12_219 rfl (Or.inl rfl) ?_
            have b2 := zv_R g8 200 14
            refine z_iret dX12_worthOf_155 rfl ?_
            have ec : c2 = c := by rw [hRu] at j2; exact (congrArg (fun x : pR => x.2.2) j2).symm
            subst ec
            have e : gW (mfr h n) 2 (m : Int) c2 L n nc p = zv g8 200 14 := by unfold gW; rw [if_neg (by decide), if_neg (by decide), if_neg (by omega), v2.1, eA, eB]
            have zz := K g8 ((DM_let (by omega) (by omega) (by omega) (by omega) (by omega)).tr (DM_F F2)) (by rw [e]; exact v2.2)
            rw [e] at zz
            exact zz
          · skip
            exact absurd (by rw [← j2, hRu]) n2
        · skip
          refine ab_iload_n (k := 5) dX12_worthOf_74 rfl rfl ?_
          refine z_ineg dX12_worthOf_75 ?_
          refine z_iret dX12_worthOf_76 rfl ?_
          first
          | (have e : gW (mfr h n) k hd c L n nc p = -(min (A : Int) (B : Int)) := by unfold gW; rw [if_pos (by omega), eA, eB]
             have z := K _ DM.rf (by rw [e]; omega)
             rw [e] at z; exact z)
          | (have e : gW (mfr h n) k hd c L n nc p = -((pU (wout (mfr h n) p L) L n).length : Int) := by unfold gW; rw [if_neg (by omega), if_pos (by omega)]
             have z := K _ (ga_back m1 m2 hpL (fun y a b => (mfr_iff.mp (hal y a b)).2) hr hsa hL2.1) (by rw [e]; omega)
             rw [e] at z; exact z)
          | (have e : gW (mfr h n) k hd c L n nc p = -(p : Int) := by unfold gW; rw [if_neg (by omega), if_neg (by omega), if_pos (by omega)]
             have z := K _ DM.rf (by rw [e]; omega)
             rw [e] at z; exact z)
    · skip
      refine ab_aload_n (k := 2) dX12_worthOf_39 rfl rfl ?_
      refine ab_iload_n (k := 3) dX12_worthOf_40 rfl rfl ?_
      refine ab_iload_n (k := 5) dX12_worthOf_41 rfl rfl ?_
      refine ab_callV (As := [.int (iI (s : Int)), .int (iI (p : Int))]) (rest := []) dX12_worthOf_42 lX12_329 rfl (Nat.le_of_ble_eq_true rfl) (Nat.le_of_ble_eq_true rfl) rfl ?_
      refine c_mstand (L := L) hs hL hL2.2 (by omega) (by omega) (fun h1 m1 => ?_)
      show ab_X (d + 35) mX12_worthOf 45 [(5, .int (iI (B : Int))), (4, .int (iI (A : Int))), (0, .ref 200), (1, .int (iI (s : Int))), (2, .int (iI k)), (3, .int (iI (p : Int)))] [] h1 _
      refine ab_aload_n (k := 2) dX12_worthOf_45 rfl rfl ?_
      refine ab_iload_n (k := 3) dX12_worthOf_46 rfl rfl ?_
      refine ab_callV (As := [.int (iI (s : Int))]) (rest := []) dX12_worthOf_47 lX12_333 rfl (Nat.le_of_ble_eq_true rfl) (Nat.le_of_ble_eq_true rfl) rfl ?_
      refine c_fitMany (n := n) (L := L) ((m1.1.1 200 32 (by decide)).trans hn) hn2 hs ((m1.1.1 207 _ (by decide)).trans hL) hL2.2 ?_
      rw [mfr_out m1]
      have bU := pU_le (wout (mfr h n) p L) L n
      show ab_X (d + 35) mX12_worthOf 50 [(5, .int (iI (B : Int))), (4, .int (iI (A : Int))), (0, .ref 200), (1, .int (iI (s : Int))), (2, .int (iI k)), (3, .int (iI (p : Int)))] [.int (iI ((pU (wout (mfr h n) p L) L n).length : Int))] h1 _
      refine z_ineg dX12_worthOf_50 ?_
      refine ab_istore (ls' := [(6, .int (iI (-((pU (wout (mfr h n) p L) L n).length : Int)))), (5, .int (iI (B : Int))), (4, .int (iI (A : Int))), (0, .ref 200), (1, .int (iI (s : Int))), (2, .int (iI k)), (3, .int (iI (p : Int)))]) dX12_worthOf_51 (by decide) rfl ?_
      refine ab_aload_n (k := 3) dX12_worthOf_53 rfl rfl ?_
      refine ab_iload_n (k := 6) dX12_worthOf_54 rfl rfl ?_
      refine ab_callV (As := [.int (iI (p : Int))]) (rest := []) dX12_worthOf_55 lX12_336 rfl (Nat.le_of_ble_eq_true rfl) (Nat.le_of_ble_eq_true rfl) rfl ?_
      refine c_goAway (p := p) (n := n) ((m1.1.1 200 32 (by decide)).trans hn) hn2 (by omega) (fun h2 m2 => ?_)
      show ab_X (d + 35) mX12_worthOf 58 [(6, .int (iI (-((pU (wout (mfr h n) p L) L n).length : Int)))), (5, .int (iI (B : Int))), (4, .int (iI (A : Int))), (0, .ref 200), (1, .int (iI (s : Int))), (2, .int (iI k)), (3, .int (iI (p : Int)))] [] h2 _
      refine ab_iload (k := 0) dX12_worthOf_58 rfl ?_
      refine z_iret dX12_worthOf_60 rfl ?_
      first
      | (have e : gW (mfr h n) k hd c L n nc p = -(min (A : Int) (B : Int)) := by unfold gW; rw [if_pos (by omega), eA, eB]
         have z := K _ DM.rf (by rw [e]; omega)
         rw [e] at z; exact z)
      | (have e : gW (mfr h n) k hd c L n nc p = -((pU (wout (mfr h n) p L) L n).length : Int) := by unfold gW; rw [if_neg (by omega), if_pos (by omega)]
         have z := K _ (ga_back m1 m2 hpL (fun y a b => (mfr_iff.mp (hal y a b)).2) hr hsa hL2.1) (by rw [e]; omega)
         rw [e] at z; exact z)
      | (have e : gW (mfr h n) k hd c L n nc p = -(p : Int) := by unfold gW; rw [if_neg (by omega), if_neg (by omega), if_pos (by omega)]
         have z := K _ DM.rf (by rw [e]; omega)
         rw [e] at z; exact z)
  · skip
    refine ab_iload (k := 1) dX12_worthOf_25 rfl ?_
    refine ab_iload (k := 0) dX12_worthOf_27 rfl ?_
    refine z_mmin dX12_worthOf_29 lX12_327 (Nat.le_of_ble_eq_true rfl) (by omega) (by omega) ?_
    refine z_ineg dX12_worthOf_32 ?_
    refine z_iret dX12_worthOf_33 rfl ?_
    first
    | (have e : gW (mfr h n) k hd c L n nc p = -(min (A : Int) (B : Int)) := by unfold gW; rw [if_pos (by omega), eA, eB]
       have z := K _ DM.rf (by rw [e]; omega)
       rw [e] at z; exact z)
    | (have e : gW (mfr h n) k hd c L n nc p = -((pU (wout (mfr h n) p L) L n).length : Int) := by unfold gW; rw [if_neg (by omega), if_pos (by omega)]
       have z := K _ (ga_back m1 m2 hpL (fun y a b => (mfr_iff.mp (hal y a b)).2) hr hsa hL2.1) (by rw [e]; omega)
       rw [e] at z; exact z)
    | (have e : gW (mfr h n) k hd c L n nc p = -(p : Int) := by unfold gW; rw [if_neg (by omega), if_neg (by omega), if_pos (by omega)]
       have z := K _ DM.rf (by rw [e]; omega)
       rw [e] at z; exact z)
