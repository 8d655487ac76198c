/-! A GATE MORE, both sides -/
def gfr (g : Nat → Bool) (n z y : Nat) : Bool := decide (y < n ∧ g y = false ∧ y ≠ z)
theorem gfr_iff {g : Nat → Bool} {n z y : Nat} : gfr g n z y = true ↔ y < n ∧ g y = false ∧ y ≠ z := by unfold gfr; exact decide_eq_true_iff
theorem gfr_end {g : Nat → Bool} {n z y : Nat} (hy : n ≤ y) : ¬ gfr g n z y = true := fun q => absurd (gfr_iff.mp q).1 (by omega)
theorem gAt_b {fr : Nat → Bool} {n y : Nat} (hn : n ≤ 20) (hf : ∀ y, n ≤ y → ¬ fr y = true) : gAt fr y ≤ 20 := by
  rcases Nat.lt_or_ge 20 (gAt fr y) with q | q
  · unfold gAt at q
    split at q
    · exact absurd (rr_in fr 40 y 20 q) (hf _ (by omega))
    · omega
  · exact q
def gMean (g : Nat → Bool) (L n z : Nat) : Int := sT (fun y => mTb L 0 21 (gAt (gfr g n z) y)) n
theorem gMean_b {g : Nat → Bool} {L n z : Nat} (hL : 1 ≤ L) (hn : n ≤ 20) : 0 ≤ gMean g L n z ∧ gMean g L n z ≤ 400000000 := by
  have := sT_b (f := fun y => mTb L 0 21 (gAt (gfr g n z) y)) (b := 20000000) (n := n) (fun i _ => by
    have h1 := gAt_b (fr := gfr g n z) (y := i) hn (fun y hy => gfr_end hy)
    have h2 := mTb_b (l := L) (ob := 0) hL (by decide) 21 (gAt (gfr g n z) i) (by omega)
    exact ⟨h2.1, by omega⟩)
  unfold gMean
  omega
def GT (g : Nat → Bool) (L n : Nat) : Nat → Int × Int
  | 0 => (-1, -1)
  | z + 1 => if g z = true then GT g L n z else if (GT g L n z).2 < gMean g L n z then ((z : Int), gMean g L n z) else GT g L n z
theorem GT_g {g : Nat → Bool} {L n z : Nat} (h : g z = true) : GT g L n (z + 1) = GT g L n z := by show (if _ then _ else _) = _; rw [if_pos h]
theorem GT_t {g : Nat → Bool} {L n z : Nat} (h : ¬ g z = true) (h2 : (GT g L n z).2 < gMean g L n z) : GT g L n (z + 1) = ((z : Int), gMean g L n z) := by show (if _ then _ else _) = _; rw [if_neg h, if_pos h2]
theorem GT_f {g : Nat → Bool} {L n z : Nat} (h : ¬ g z = true) (h2 : ¬ (GT g L n z).2 < gMean g L n z) : GT g L n (z + 1) = GT g L n z := by show (if _ then _ else _) = _; rw [if_neg h, if_neg h2]
theorem GT_b {g : Nat → Bool} {L n : Nat} (hL : 1 ≤ L) (hn : n ≤ 20) : ∀ z, -1 ≤ (GT g L n z).1 ∧ (GT g L n z).1 ≤ z ∧ -1 ≤ (GT g L n z).2 ∧ (GT g L n z).2 ≤ 400000000 ∧ ((GT g L n z).1 = -1 ↔ (GT g L n z).2 = -1)
  | 0 => by show -1 ≤ (-1 : Int) ∧ (-1 : Int) ≤ ((0 : Nat) : Int) ∧ -1 ≤ (-1 : Int) ∧ (-1 : Int) ≤ 400000000 ∧ ((-1 : Int) = -1 ↔ (-1 : Int) = -1); omega
  | z + 1 => by
    have a := GT_b (g := g) hL hn z
    have b := gMean_b (g := g) (L := L) (n := n) (z := z) hL hn
    by_cases h : g z = true
    · rw [GT_g h]; omega
    · by_cases h2 : (GT g L n z).2 < gMean g L n z
      · rw [GT_t h h2]; show -1 ≤ (z : Int) ∧ (z : Int) ≤ ((z + 1 : Nat) : Int) ∧ -1 ≤ gMean g L n z ∧ gMean g L n z ≤ 400000000 ∧ ((z : Int) = -1 ↔ gMean g L n z = -1); omega
      · rw [GT_f h h2]; omega
def gC (h : ab_H) (y : Nat) : Bool := decide (¬ zv h 18 y = 0)
def gM (h : ab_H) (y : Nat) : Bool := decide (zv h 211 y = -2)
theorem gC_mean {h h1 : ab_H} {L n z : Nat} (hL : 1 ≤ L) (hn2 : n ≤ 20) (hno : ∀ y, y < 20 → zv h 40 y = -1) (hG1 : GR h1 (scan (frm h 39 (z : Int)) n)) : sT (fun i => mTb L 0 21 (zv h1 169 i).toNat) (scan (frm h 39 (z : Int)) n).1 = gMean (gC h) L n z := by
  have e : scan (frm h 39 (z : Int)) n = scan (gfr (gC h) n z) n := scan_congr (fun y hy => by
    refine Bool.eq_iff_iff.mpr ?_
    rw [frm_iff, gfr_iff]
    unfold gC
    rw [decide_eq_false_iff_not, Decidable.not_not]
    have h40 : zv h (39 + 1) y = -1 := hno y (by omega)
    exact ⟨fun q => ⟨hy, q.1, by omega⟩, fun q => ⟨q.2.1, h40, by omega⟩⟩)
  rw [e] at hG1 ⊢
  exact GR_sum (mTb_0 hL) hn2 (gfr_end (Nat.le_refl n)) hG1
theorem mfr_gat {h h0 : ab_H} {n z : Nat} (hn : n ≤ 20) (hr : ∀ y, y < 20 → zv h0 211 y = -2 ∨ zv h0 211 y = -1) (he : ∀ y, zv h 211 y = if y = z then -2 else zv h0 211 y) : mfr h n = gfr (gM h0) n z := by
  funext y
  refine Bool.eq_iff_iff.mpr ?_
  rw [mfr_iff, gfr_iff, he y]
  unfold gM
  rw [decide_eq_false_iff_not]
  constructor
  · intro q
    by_cases e : y = z
    · rw [if_pos e] at q; omega
    · rw [if_neg e] at q; exact ⟨q.1, by omega, e⟩
  · intro q
    have := hr y (by omega)
    rw [if_neg q.2.2]; exact ⟨q.1, by omega⟩
theorem lp_gate {d : Nat} {Q : ab_Q} {h0 : ab_H} {n L : Nat} {s x : Int} (hx : 0 ≤ x ∧ x ≤ 1) (hn : zv h0 15 0 = n) (hn2 : n ≤ 20) (hL : 1 ≤ L) (hno : ∀ y, y < 20 → zv h0 40 y = -1) (hT : ∀ j, j ≤ 20 → wv h0 171 j = mTb L 0 21 j) (K : ∀ h', sm [167, 168, 169] h0 h' → Q (some (.long (lL (if x = 0 then (GT (gC h0) L n n).1 else (GT (gC h0) L n n).2)))) h') : ∀ (nn : Nat) (y : Nat) (b : Int) (m : Int) (h : ab_H), n - y = nn → (y ≤ n) → (sm [167, 168, 169] h0 h) → ((b, m) = GT (gC h0) L n y) → ab_X (d + 4) mX11_gate 50 [(0, .ref 0), (1, .int (iI s)), (2, .int (iI x)), (3, .int (iI b)), (4, .long (lL m)), (6, .int (iI (y : Int)))] [] h Q := by
  intro nn
  induction nn using Nat.strongRecOn with
  | ind nn ih =>
  intro y b m h hnn h2 hI hb
  have hgb := GT_b (g := gC h0) (L := L) (n := n) hL hn2 y
  rw [← hb] at hgb
  dsimp only at hgb
  have hb2 : m = (GT (gC h0) L n y).2 := by rw [← hb]
  have e150 : zv h 15 0 = n := (hI.1 15 0 (by decide)).trans hn
  refine ab_iload (k := 5) dX11_gate_50 rfl ?_
  refine ab_aload_n (k := 0) dX11_gate_52 rfl rfl ?_
  refine z_getP (b := 15) dX11_gate_53 fX11_35 rfl rfl rfl ?_
  refine z_getI dX11_gate_56 fX11_286 rfl (Or.inl rfl) ?_
  refine z_is (y := (n : Int)) e150 ?_
  refine z_icmp_ge (tgt := 125) dX11_gate_59 (by decide) (by omega) (by omega) (fun c59 => ?_) (fun c59 => ?_)
  · skip
    refine ab_iload_n (k := 2) dX11_gate_125 rfl rfl ?_
    refine z_if_ne (tgt := 134) dX11_gate_126 (by decide) (by omega) (fun c126 => ?_) (fun c126 => ?_)
    · skip
      refine ab_lload (k := 4) dX11_gate_134 rfl ?_
      refine z_lret dX11_gate_136 rfl ?_
      have e : y = n := by omega
      subst e
      rw [← hb] at K
      first | (rw [if_pos (by omega)] at K; exact K h hI) | (rw [if_neg (by omega)] at K; exact K h hI)
    · skip
      refine ab_iload_n (k := 3) dX11_gate_129 rfl rfl ?_
      refine z_i2l dX11_gate_130 (by omega) ?_
      refine ab_goto (tgt := 136) dX11_gate_131 (by decide) ?_
      refine z_lret dX11_gate_136 rfl ?_
      have e : y = n := by omega
      subst e
      rw [← hb] at K
      first | (rw [if_pos (by omega)] at K; exact K h hI) | (rw [if_neg (by omega)] at K; exact K h hI)
  · skip
    refine ab_aload_n (k := 0) dX11_gate_62 rfl rfl ?_
    refine z_getP (b := 15) dX11_gate_63 fX11_35 rfl rfl rfl ?_
    refine ab_iload (k := 5) dX11_gate_66 rfl ?_
    refine ab_callV (As := [.int (iI (y : Int))]) (rest := []) dX11_gate_68 lX11_168 rfl (Nat.le_of_ble_eq_true rfl) (Nat.le_of_ble_eq_true rfl) rfl ?_
    refine c_isGate (by omega) (by omega) (fun g68 => ?_) (fun g68 => ?_)
    · skip
      try simp only [Int.toNat_natCast] at g68
      have gL := g68
      show ab_X (d + 4) mX11_gate 71 [(0, .ref 0), (1, .int (iI s)), (2, .int (iI x)), (3, .int (iI b)), (4, .long (lL m)), (6, .int (iI (y : Int)))] [.int (iI 1)] h _
      
      refine z_if_ne (tgt := 119) dX11_gate_71 (by decide) (by decide) (fun _ => ?_) (fun c71 => absurd c71 (by decide))
      refine z_iinc (k := 5) (v := (y : Int) + 1) (ls' := [(6, .int (iI ((y : Int) + 1))), (0, .ref 0), (1, .int (iI s)), (2, .int (iI x)), (3, .int (iI b)), (4, .long (lL m))]) dX11_gate_119 rfl rfl (by decide) rfl ?_
      refine ab_goto (tgt := 50) dX11_gate_122 (by decide) ?_
      refine ab_sub (ls' := [(0, .ref 0), (1, .int (iI s)), (2, .int (iI x)), (3, .int (iI b)), (4, .long (lL m)), (6, .int (iI ((y : Int) + 1)))]) (ks := [1, 2, 3, 4, 5, 0]) rfl ?_
      first
      | exact ih _ (by omega) (y + 1) _ _ _ rfl (by omega) hI (by rw [GT_g (by unfold gC; rw [← hI.1 18 y (by decide)]; exact decide_eq_true gL.2.2)]; exact hb)
      | (have gg : ¬ gC h0 y = true := by
           unfold gC; rw [← hI.1 18 y (by decide), decide_eq_true_iff]; exact fun q => gL ⟨by omega, by omega, q⟩
         first
         | exact ih _ (by omega) (y + 1) _ _ _ rfl (by omega) (hI.trans hs1) (by rw [GT_t gg (by omega)])
         | exact ih _ (by omega) (y + 1) _ _ _ rfl (by omega) (hI.trans hs1) (by rw [GT_f gg (by omega)]; exact hb))
    · skip
      try simp only [Int.toNat_natCast] at g68
      have gL := g68
      show ab_X (d + 4) mX11_gate 71 [(0, .ref 0), (1, .int (iI s)), (2, .int (iI x)), (3, .int (iI b)), (4, .long (lL m)), (6, .int (iI (y : Int)))] [.int (iI 0)] h _
      
      refine z_if_ne (tgt := 119) dX11_gate_71 (by decide) (by decide) (fun c71 => absurd c71 (by decide)) (fun _ => ?_)
      refine ab_aload_n (k := 0) dX11_gate_74 rfl rfl ?_
      refine z_getP (b := 167) dX11_gate_75 fX11_73 rfl rfl rfl ?_
      refine ab_aload_n (k := 0) dX11_gate_78 rfl rfl ?_
      refine z_getP (b := 15) dX11_gate_79 fX11_35 rfl rfl rfl ?_
      refine ab_aload_n (k := 0) dX11_gate_82 rfl rfl ?_
      refine z_getP (b := 39) dX11_gate_83 fX11_57 rfl rfl rfl ?_
      refine ab_iload (k := 5) dX11_gate_86 rfl ?_
      refine ab_callV (As := [.ref 15, .ref 39, .int (iI (y : Int))]) (rest := []) dX11_gate_88 lX11_301 rfl (Nat.le_of_ble_eq_true rfl) (Nat.le_of_ble_eq_true rfl) rfl ?_
      refine c_measure (r := 39) (Or.inr rfl) (hI.1 15 0 (by decide) ▸ hn) hn2 (by omega) (fun h1 hs1 hG1 => ?_)
      show ab_X (d + 4) mX11_gate 91 [(0, .ref 0), (1, .int (iI s)), (2, .int (iI x)), (3, .int (iI b)), (4, .long (lL m)), (6, .int (iI (y : Int)))] [] h1 _
      refine ab_aload_n (k := 0) dX11_gate_91 rfl rfl ?_
      refine z_getP (b := 170) dX11_gate_92 fX11_80 rfl rfl rfl ?_
      refine ab_aload_n (k := 0) dX11_gate_95 rfl rfl ?_
      refine z_getP (b := 167) dX11_gate_96 fX11_73 rfl rfl rfl ?_
      refine ab_callV (As := [.ref 167]) (rest := []) dX11_gate_99 lX11_265 rfl (Nat.le_of_ble_eq_true rfl) (Nat.le_of_ble_eq_true rfl) rfl ?_
      refine c_meanOf (t := mTb L 0 21) (GR_ok hn2 hG1) (fun j hj => (hs1.2.1 171 j (by decide)).trans ((hI.2.1 171 j (by decide)).trans (hT j hj))) ?_
      rw [gC_mean hL hn2 (fun y hy => (hI.1 40 y (by decide)).trans (hno y hy)) hG1, show gC h = gC h0 from funext (fun y => by unfold gC; rw [hI.1 18 y (by decide)])]
      have hgm := gMean_b (g := gC h0) (L := L) (n := n) (z := y) hL hn2
      show ab_X (d + 4) mX11_gate 102 [(0, .ref 0), (1, .int (iI s)), (2, .int (iI x)), (3, .int (iI b)), (4, .long (lL m)), (6, .int (iI (y : Int)))] [.long (lL (gMean (gC h0) L n y))] h1 _
      refine ab_lstore (ls' := [(7, .long (lL (gMean (gC h0) L n y))), (0, .ref 0), (1, .int (iI s)), (2, .int (iI x)), (3, .int (iI b)), (4, .long (lL m)), (6, .int (iI (y : Int)))]) dX11_gate_102 (by decide) rfl ?_
      refine ab_lload (k := 0) dX11_gate_104 rfl ?_
      refine ab_lload (k := 5) dX11_gate_106 rfl ?_
      refine z_lcmp dX11_gate_108 (by omega) (by omega) (fun c108 => ?_) (fun c108 => ?_) (fun c108 => ?_)
      · skip
        refine z_if_le (tgt := 119) dX11_gate_109 (by decide) (by decide) (fun c109 => absurd c109 (by decide)) (fun _ => ?_)
        refine ab_iload (k := 6) dX11_gate_112 rfl ?_
        refine ab_istore_n (ls' := [(3, .int (iI (y : Int))), (7, .long (lL (gMean (gC h0) L n y))), (0, .ref 0), (1, .int (iI s)), (2, .int (iI x)), (4, .long (lL m)), (6, .int (iI (y : Int)))]) dX11_gate_114 rfl (by decide) rfl ?_
        refine ab_lload (k := 1) dX11_gate_115 rfl ?_
        refine ab_lstore (ls' := [(4, .long (lL (gMean (gC h0) L n y))), (3, .int (iI (y : Int))), (7, .long (lL (gMean (gC h0) L n y))), (0, .ref 0), (1, .int (iI s)), (2, .int (iI x)), (6, .int (iI (y : Int)))]) dX11_gate_117 (by decide) rfl ?_
        refine z_iinc (k := 6) (v := (y : Int) + 1) (ls' := [(6, .int (iI ((y : Int) + 1))), (4, .long (lL (gMean (gC h0) L n y))), (3, .int (iI (y : Int))), (7, .long (lL (gMean (gC h0) L n y))), (0, .ref 0), (1, .int (iI s)), (2, .int (iI x))]) dX11_gate_119 rfl rfl (by decide) rfl ?_
        refine ab_goto (tgt := 50) dX11_gate_122 (by decide) ?_
        refine ab_sub (ls' := [(0, .ref 0), (1, .int (iI s)), (2, .int (iI x)), (3, .int (iI (y : Int))), (4, .long (lL (gMean (gC h0) L n y))), (6, .int (iI ((y : Int) + 1)))]) (ks := [4, 5, 6, 2, 1, 0]) rfl ?_
        first
        | exact ih _ (by omega) (y + 1) _ _ _ rfl (by omega) hI (by rw [GT_g (by unfold gC; rw [← hI.1 18 y (by decide)]; exact decide_eq_true gL.2.2)]; exact hb)
        | (have gg : ¬ gC h0 y = true := by
             unfold gC; rw [← hI.1 18 y (by decide), decide_eq_true_iff]; exact fun q => gL ⟨by omega, by omega, q⟩
           first
           | exact ih _ (by omega) (y + 1) _ _ _ rfl (by omega) (hI.trans hs1) (by rw [GT_t gg (by omega)])
           | exact ih _ (by omega) (y + 1) _ _ _ rfl (by omega) (hI.trans hs1) (by rw [GT_f gg (by omega)]; exact hb))
      · skip
        refine z_if_le (tgt := 119) dX11_gate_109 (by decide) (by decide) (fun _ => ?_) (fun c109 => absurd c109 (by decide))
        refine z_iinc (k := 6) (v := (y : Int) + 1) (ls' := [(6, .int (iI ((y : Int) + 1))), (7, .long (lL (gMean (gC h0) L n y))), (0, .ref 0), (1, .int (iI s)), (2, .int (iI x)), (3, .int (iI b)), (4, .long (lL m))]) dX11_gate_119 rfl rfl (by decide) rfl ?_
        refine ab_goto (tgt := 50) dX11_gate_122 (by decide) ?_
        refine ab_sub (ls' := [(0, .ref 0), (1, .int (iI s)), (2, .int (iI x)), (3, .int (iI b)), (4, .long (lL m)), (6, .int (iI ((y : Int) + 1)))]) (ks := [2, 3, 4, 5, 6, 0]) rfl ?_
        first
        | exact ih _ (by omega) (y + 1) _ _ _ rfl (by omega) hI (by rw [GT_g (by unfold gC; rw [← hI.1 18 y (by decide)]; exact decide_eq_true gL.2.2)]; exact hb)
        | (have gg : ¬ gC h0 y = true := by
             unfold gC; rw [← hI.1 18 y (by decide), decide_eq_true_iff]; exact fun q => gL ⟨by omega, by omega, q⟩
           first
           | exact ih _ (by omega) (y + 1) _ _ _ rfl (by omega) (hI.trans hs1) (by rw [GT_t gg (by omega)])
           | exact ih _ (by omega) (y + 1) _ _ _ rfl (by omega) (hI.trans hs1) (by rw [GT_f gg (by omega)]; exact hb))
      · skip
        refine z_if_le (tgt := 119) dX11_gate_109 (by decide) (by decide) (fun _ => ?_) (fun c109 => absurd c109 (by decide))
        refine z_iinc (k := 6) (v := (y : Int) + 1) (ls' := [(6, .int (iI ((y : Int) + 1))), (7, .long (lL (gMean (gC h0) L n y))), (0, .ref 0), (1, .int (iI s)), (2, .int (iI x)), (3, .int (iI b)), (4, .long (lL m))]) dX11_gate_119 rfl rfl (by decide) rfl ?_
        refine ab_goto (tgt := 50) dX11_gate_122 (by decide) ?_
        refine ab_sub (ls' := [(0, .ref 0), (1, .int (iI s)), (2, .int (iI x)), (3, .int (iI b)), (4, .long (lL m)), (6, .int (iI ((y : Int) + 1)))]) (ks := [2, 3, 4, 5, 6, 0]) rfl ?_
        first
        | exact ih _ (by omega) (y + 1) _ _ _ rfl (by omega) hI (by rw [GT_g (by unfold gC; rw [← hI.1 18 y (by decide)]; exact decide_eq_true gL.2.2)]; exact hb)
        | (have gg : ¬ gC h0 y = true := by
             unfold gC; rw [← hI.1 18 y (by decide), decide_eq_true_iff]; exact fun q => gL ⟨by omega, by omega, q⟩
           first
           | exact ih _ (by omega) (y + 1) _ _ _ rfl (by omega) (hI.trans hs1) (by rw [GT_t gg (by omega)])
           | exact ih _ (by omega) (y + 1) _ _ _ rfl (by omega) (hI.trans hs1) (by rw [GT_f gg (by omega)]; exact hb))
theorem c_gate {d : Nat} {h : ab_H} {Q : ab_Q} {s x : Int} {n L : Nat} (hs : inR s) (hx : inR x) (hn : zv h 15 0 = n) (hn2 : n ≤ 20) (hN : zv h 15 3 ≤ 4) (hL : 0 ≤ s ∧ s < zv h 15 3 → zv h 16 s.toNat = L ∧ 1 ≤ L ∧ L ≤ 9) (hno : ∀ y, y < 20 → zv h 40 y = -1) (kn : ¬ ((0 ≤ s ∧ s < zv h 15 3) ∧ 0 ≤ x ∧ x ≤ 1) → Q (some (.long (lL (-1)))) h) (k1 : (0 ≤ s ∧ s < zv h 15 3) ∧ 0 ≤ x ∧ x ≤ 1 → ∀ h', sm [167, 168, 169, 171] h h' → Q (some (.long (lL (if x = 0 then (GT (gC h) L n n).1 else (GT (gC h) L n n).2)))) h') : ab_X (d + 4) mX11_gate 0 (lv_args 0 [.ref 0, .int (iI s), .int (iI x)]) [] h Q := by
  show ab_X (d + 4) mX11_gate 0 [(0, .ref 0), (1, .int (iI s)), (2, .int (iI x))] [] h Q
  refine ab_aload_n (k := 0) dX11_gate_0 rfl rfl ?_
  refine z_getP (b := 15) dX11_gate_1 fX11_35 rfl rfl rfl ?_
  refine ab_iload_n (k := 1) dX11_gate_4 rfl rfl ?_
  refine ab_callV (As := [.int (iI s)]) (rest := []) dX11_gate_5 lX11_171 rfl (Nat.le_of_ble_eq_true rfl) (Nat.le_of_ble_eq_true rfl) rfl ?_
  refine c_hasSort (by omega) (fun g5 => ?_) (fun g5 => ?_)
  · skip
    try simp only [Int.toNat_natCast] at g5
    have gL := g5
    show ab_X (d + 4) mX11_gate 8 [(0, .ref 0), (1, .int (iI s)), (2, .int (iI x))] [.int (iI 1)] h _
    refine z_if_eq (tgt := 20) dX11_gate_8 (by decide) (by decide) (fun c8 => absurd c8 (by decide)) (fun _ => ?_)
    refine ab_iload_n (k := 2) dX11_gate_11 rfl rfl ?_
    refine z_if_lt (tgt := 20) dX11_gate_12 (by decide) (by omega) (fun c12 => ?_) (fun c12 => ?_)
    · skip
      refine z_ldc2 (v := (-1)) dX11_gate_20 qX11_259 (by decide) ?_
      refine z_lret dX11_gate_23 rfl ?_
      first
      | exact kn (by omega)
      | (refine lp_gate (by omega) ((hw2.1.1 15 0 (by decide)).trans hn) hn2 hLb.1 (fun y hy => (hw2.1.1 40 y (by decide)).trans (hno y hy)) (fun j hj => hw2.2 j (by omega)) (fun h' hs' => ?_) _ 0 _ _ h2 rfl (by omega) sm.refl rfl
         rw [show gC h2 = gC h from funext (fun y => by unfold gC; rw [hw2.1.1 18 y (by decide)])]
         exact k1 (by omega) h' ((hw2.1.mono (by decide)).trans (hs'.mono (by decide))))
    · skip
      refine ab_iload_n (k := 2) dX11_gate_15 rfl rfl ?_
      refine z_iconst dX11_gate_16 ?_
      refine z_icmp_le (tgt := 24) dX11_gate_17 (by decide) (by omega) (by decide) (fun c17 => ?_) (fun c17 => ?_)
      · skip
        refine ab_aload_n (k := 0) dX11_gate_24 rfl rfl ?_
        refine z_getP (b := 170) dX11_gate_25 fX11_80 rfl rfl rfl ?_
        refine ab_aload_n (k := 0) dX11_gate_28 rfl rfl ?_
        refine z_getP (b := 15) dX11_gate_29 fX11_35 rfl rfl rfl ?_
        refine ab_iload_n (k := 1) dX11_gate_32 rfl rfl ?_
        refine ab_callV (As := [.int (iI s)]) (rest := [.ref 170]) dX11_gate_33 lX11_174 rfl (Nat.le_of_ble_eq_true rfl) (Nat.le_of_ble_eq_true rfl) rfl ?_
        refine c_lengthOf (by omega) (by omega) (fun _ => ?_) (fun q => absurd (show _ from ⟨by omega, by omega⟩) q)
        show ab_X (d + 4) mX11_gate 36 [(0, .ref 0), (1, .int (iI s)), (2, .int (iI x))] [.int (iI (zv h 16 s.toNat)), .ref 170] h _
        refine z_is (y := (L : Int)) (hL (by omega)).1 ?_
        have hLb := (hL (by omega)).2
        refine z_iconst dX11_gate_36 ?_
        refine ab_callV (As := [.int (iI (L : Int)), .int (iI 0)]) (rest := []) dX11_gate_37 lX11_261 rfl (Nat.le_of_ble_eq_true rfl) (Nat.le_of_ble_eq_true rfl) rfl ?_
        refine c_weighMeans (l := L) (by omega) (by omega) (by decide) (fun h2 hw2 => ?_)
        show ab_X (d + 4) mX11_gate 40 [(0, .ref 0), (1, .int (iI s)), (2, .int (iI x))] [] h2 _
        refine z_iconst dX11_gate_40 ?_
        refine ab_istore_n (ls' := [(3, .int (iI (-1))), (0, .ref 0), (1, .int (iI s)), (2, .int (iI x))]) dX11_gate_41 rfl (by decide) rfl ?_
        refine z_ldc2 (v := (-1)) dX11_gate_42 qX11_259 (by decide) ?_
        refine ab_lstore (ls' := [(4, .long (lL (-1))), (3, .int (iI (-1))), (0, .ref 0), (1, .int (iI s)), (2, .int (iI x))]) dX11_gate_45 (by decide) rfl ?_
        refine z_iconst dX11_gate_47 ?_
        refine ab_istore (ls' := [(6, .int (iI 0)), (4, .long (lL (-1))), (3, .int (iI (-1))), (0, .ref 0), (1, .int (iI s)), (2, .int (iI x))]) dX11_gate_48 (by decide) rfl ?_
        refine ab_sub (ls' := [(0, .ref 0), (1, .int (iI s)), (2, .int (iI x)), (3, .int (iI (-1))), (4, .long (lL (-1))), (6, .int (iI 0))]) (ks := [3, 4, 5, 2, 1, 0]) rfl ?_
        first
        | exact kn (by omega)
        | (refine lp_gate (by omega) ((hw2.1.1 15 0 (by decide)).trans hn) hn2 hLb.1 (fun y hy => (hw2.1.1 40 y (by decide)).trans (hno y hy)) (fun j hj => hw2.2 j (by omega)) (fun h' hs' => ?_) _ 0 _ _ h2 rfl (by omega) sm.refl rfl
           rw [show gC h2 = gC h from funext (fun y => by unfold gC; rw [hw2.1.1 18 y (by decide)])]
           exact k1 (by omega) h' ((hw2.1.mono (by decide)).trans (hs'.mono (by decide))))
      · skip
        refine z_ldc2 (v := (-1)) dX11_gate_20 qX11_259 (by decide) ?_
        refine z_lret dX11_gate_23 rfl ?_
        first
        | exact kn (by omega)
        | (refine lp_gate (by omega) ((hw2.1.1 15 0 (by decide)).trans hn) hn2 hLb.1 (fun y hy => (hw2.1.1 40 y (by decide)).trans (hno y hy)) (fun j hj => hw2.2 j (by omega)) (fun h' hs' => ?_) _ 0 _ _ h2 rfl (by omega) sm.refl rfl
           rw [show gC h2 = gC h from funext (fun y => by unfold gC; rw [hw2.1.1 18 y (by decide)])]
           exact k1 (by omega) h' ((hw2.1.mono (by decide)).trans (hs'.mono (by decide))))
  · skip
    try simp only [Int.toNat_natCast] at g5
    have gL := g5
    show ab_X (d + 4) mX11_gate 8 [(0, .ref 0), (1, .int (iI s)), (2, .int (iI x))] [.int (iI 0)] h _
    refine z_if_eq (tgt := 20) dX11_gate_8 (by decide) (by decide) (fun _ => ?_) (fun c8 => absurd c8 (by decide))
    refine z_ldc2 (v := (-1)) dX11_gate_20 qX11_259 (by decide) ?_
    refine z_lret dX11_gate_23 rfl ?_
    first
    | exact kn (by omega)
    | (refine lp_gate (by omega) ((hw2.1.1 15 0 (by decide)).trans hn) hn2 hLb.1 (fun y hy => (hw2.1.1 40 y (by decide)).trans (hno y hy)) (fun j hj => hw2.2 j (by omega)) (fun h' hs' => ?_) _ 0 _ _ h2 rfl (by omega) sm.refl rfl
       rw [show gC h2 = gC h from funext (fun y => by unfold gC; rw [hw2.1.1 18 y (by decide)])]
       exact k1 (by omega) h' ((hw2.1.mono (by decide)).trans (hs'.mono (by decide))))
def gA (h0 h : ab_H) (y : Nat) : Prop := sm [211, 222] h0 h ∧ (∀ j, zv h 222 j = if j < y then zv h0 211 j else zv h0 222 j) ∧ ∀ j, zv h 211 j = if j < y then (if zv h0 211 j = -2 then -2 else -1) else zv h0 211 j
theorem gA_step {h0 h : ab_H} {y : Nat} {x : Int} (hI : gA h0 h y) (hx : x = if zv h0 211 y = -2 then -2 else -1) : gA h0 (zp (zp h 222 y (zv h 211 y)) 211 y x) (y + 1) := by
  have ey : zv h 211 y = zv h0 211 y := by rw [hI.2.2 y, if_neg (by omega)]
  have hxR : inR x := by rw [hx]; split <;> decide
  refine ⟨(hI.1.trans (sm_zp (by decide))).trans (sm_zp (by decide)), fun j => ?_, fun j => ?_⟩
  · rw [zv_zp_a (by decide), zv_zp (zv_R _ _ _), hI.2.1 j, ey]
    by_cases e : j = y
    · subst e; rw [if_pos ⟨rfl, rfl⟩, if_pos (by omega)]
    · rw [if_neg (fun q => e q.2)]
      by_cases f : j < y
      · rw [if_pos f, if_pos (by omega)]
      · rw [if_neg f, if_neg (by omega)]
  · rw [zv_zp hxR, zv_zp_a (by decide), hI.2.2 j]
    by_cases e : j = y
    · subst e; rw [if_pos ⟨rfl, rfl⟩, if_pos (by omega)]; exact hx
    · rw [if_neg (fun q => e q.2)]
      by_cases f : j < y
      · rw [if_pos f, if_pos (show j < y + 1 by omega)]
      · rw [if_neg f, if_neg (show ¬ j < y + 1 by omega)]
theorem gE_step {h0 h h1 : ab_H} {y : Nat} (hr0 : zv h0 211 y = -1) (hE : ∀ j, zv h 211 j = zv h0 211 j) (hw : sm [217] (zp h 211 y (-2)) h1) : ∀ j, zv (zp h1 211 y (-1)) 211 j = zv h0 211 j := fun j => by
  rw [zv_zp (by decide), hw.1 211 j (by decide), zv_zp (by decide), hE j]
  by_cases e : j = y
  · subst e; rw [if_pos ⟨rfl, rfl⟩, hr0]
  · rw [if_neg (fun q => e q.2), if_neg (fun q => e q.2)]
theorem lp_mgate1 {d : Nat} {Q : ab_Q} {h0 : ab_H} {s : Nat} {x : Int} (K : ∀ h', gA h0 h' 20 → ab_X (d + 5) mX12_gate 76 [(0, .ref 200), (1, .int (iI (s : Int))), (2, .int (iI x))] [] h' Q) : ∀ (nn : Nat) (y : Nat) (h : ab_H), 20 - y = nn → (y ≤ 20) → (gA h0 h y) → ab_X (d + 5) mX12_gate 29 [(0, .ref 200), (1, .int (iI (s : Int))), (2, .int (iI x)), (3, .int (iI (y : Int)))] [] h Q := by
  intro nn
  induction nn using Nat.strongRecOn with
  | ind nn ih =>
  intro y h hnn h2 hI
  have ey : zv h 211 y = zv h0 211 y := by rw [hI.2.2 y, if_neg (by omega)]
  refine ab_iload_n (k := 3) dX12_gate_29 rfl rfl ?_
  refine z_bipush dX12_gate_30 (by decide) ?_
  refine z_icmp_ge (tgt := 76) dX12_gate_32 (by decide) (by omega) (by decide) (fun c32 => ?_) (fun c32 => ?_)
  · skip
    refine ab_sub (ls' := [(0, .ref 200), (1, .int (iI (s : Int))), (2, .int (iI x))]) (ks := [0, 1, 2]) rfl ?_
    have e : y = 20 := by omega
    subst e
    exact K h hI
  · skip
    refine ab_aload_n (k := 0) dX12_gate_35 rfl rfl ?_
    refine z_getP (b := 222) dX12_gate_36 fX12_93 rfl rfl rfl ?_
    refine ab_iload_n (k := 3) dX12_gate_39 rfl rfl ?_
    refine ab_aload_n (k := 0) dX12_gate_40 rfl rfl ?_
    refine z_getP (b := 211) dX12_gate_41 fX12_55 rfl rfl rfl ?_
    refine ab_iload_n (k := 3) dX12_gate_44 rfl rfl ?_
    refine z_iald dX12_gate_45 rfl (by omega) (by omega) ?_
    simp only [Int.toNat_natCast]
    have b1 := zv_R h 211 y
    refine z_iast dX12_gate_46 rfl (by omega) (by omega) ?_
    simp only [Int.toNat_natCast]
    refine ab_aload_n (k := 0) dX12_gate_47 rfl rfl ?_
    refine z_getP (b := 211) dX12_gate_48 fX12_55 rfl rfl rfl ?_
    refine ab_iload_n (k := 3) dX12_gate_51 rfl rfl ?_
    refine ab_aload_n (k := 0) dX12_gate_52 rfl rfl ?_
    refine z_getP (b := 211) dX12_gate_53 fX12_55 rfl rfl rfl ?_
    refine ab_iload_n (k := 3) dX12_gate_56 rfl rfl ?_
    refine z_iald dX12_gate_57 rfl (by omega) (by omega) ?_
    simp only [Int.toNat_natCast]
    refine z_is (y := zv h 211 y) (zv_zp_a (by decide)) ?_
    have b2 := zv_R h 211 y
    refine z_bipush dX12_gate_58 (by decide) ?_
    refine z_icmp_ne (tgt := 68) dX12_gate_60 (by decide) (by omega) (by decide) (fun c60 => ?_) (fun c60 => ?_)
    · skip
      refine z_iconst dX12_gate_68 ?_
      refine z_iast dX12_gate_69 rfl (by omega) (by omega) ?_
      simp only [Int.toNat_natCast]
      refine z_iinc (k := 3) (v := (y : Int) + 1) (ls' := [(3, .int (iI ((y : Int) + 1))), (0, .ref 200), (1, .int (iI (s : Int))), (2, .int (iI x))]) dX12_gate_70 rfl rfl (by decide) rfl ?_
      refine ab_goto (tgt := 29) dX12_gate_73 (by decide) ?_
      refine ab_sub (ls' := [(0, .ref 200), (1, .int (iI (s : Int))), (2, .int (iI x)), (3, .int (iI ((y : Int) + 1)))]) (ks := [1, 2, 3, 0]) rfl ?_
      first | exact ih _ (by omega) (y + 1) _ rfl (by omega) (gA_step hI (by rw [if_pos (by omega)])) | exact ih _ (by omega) (y + 1) _ rfl (by omega) (gA_step hI (by rw [if_neg (by omega)]))
    · skip
      refine z_bipush dX12_gate_63 (by decide) ?_
      refine ab_goto (tgt := 69) dX12_gate_65 (by decide) ?_
      refine z_iast dX12_gate_69 rfl (by omega) (by omega) ?_
      simp only [Int.toNat_natCast]
      refine z_iinc (k := 3) (v := (y : Int) + 1) (ls' := [(3, .int (iI ((y : Int) + 1))), (0, .ref 200), (1, .int (iI (s : Int))), (2, .int (iI x))]) dX12_gate_70 rfl rfl (by decide) rfl ?_
      refine ab_goto (tgt := 29) dX12_gate_73 (by decide) ?_
      refine ab_sub (ls' := [(0, .ref 200), (1, .int (iI (s : Int))), (2, .int (iI x)), (3, .int (iI ((y : Int) + 1)))]) (ks := [1, 2, 3, 0]) rfl ?_
      first | exact ih _ (by omega) (y + 1) _ rfl (by omega) (gA_step hI (by rw [if_pos (by omega)])) | exact ih _ (by omega) (y + 1) _ rfl (by omega) (gA_step hI (by rw [if_neg (by omega)]))
theorem lp_mgate2 {d : Nat} {Q : ab_Q} {h0 : ab_H} {n s L : Nat} {x : Int} (hn : zv h0 200 32 = n) (hn2 : n ≤ 20) (hs : s < 4) (hL : zv h0 207 (2 * s) = L) (hL2 : 1 ≤ L ∧ L ≤ 9) (hr : ∀ y, y < 20 → zv h0 211 y = -2 ∨ zv h0 211 y = -1) (K : ∀ h' m, sm [211, 217] h0 h' → (∀ j, zv h' 211 j = zv h0 211 j) → (¬ (GT (gM h0) L n n).1 = -1 → m = (GT (gM h0) L n n).2) → inL m → ab_X (d + 5) mX12_gate 162 [(0, .ref 200), (2, .int (iI x)), (3, .int (iI (GT (gM h0) L n n).1)), (4, .long (lL m))] [] h' Q) : ∀ (nn : Nat) (y : Nat) (b : Int) (m : Int) (h : ab_H), n - y = nn → (y ≤ n) → (sm [211, 217] h0 h) → (∀ j, zv h 211 j = zv h0 211 j) → (b = (GT (gM h0) L n y).1) → ((¬ b = -1 → m = (GT (gM h0) L n y).2) ∧ 0 ≤ m ∧ m ≤ 400000000) → ab_X (d + 5) mX12_gate 84 [(0, .ref 200), (1, .int (iI (s : Int))), (2, .int (iI x)), (3, .int (iI b)), (4, .long (lL m)), (6, .int (iI (y : Int)))] [] h Q := by
  intro nn
  induction nn using Nat.strongRecOn with
  | ind nn ih =>
  intro y b m h hnn h2 hI hE hb hm
  have hgb := GT_b (g := gM h0) (L := L) (n := n) hL2.1 hn2 y
  have bR := zv_R h0 211 y
  have e32 : zv h 200 32 = n := (hI.1 200 32 (by decide)).trans hn
  refine ab_iload (k := 5) dX12_gate_84 rfl ?_
  refine ab_aload_n (k := 0) dX12_gate_86 rfl rfl ?_
  refine z_getI dX12_gate_87 fX12_290 rfl (Or.inl rfl) ?_
  refine z_is (y := (n : Int)) e32 ?_
  refine z_icmp_ge (tgt := 162) dX12_gate_90 (by decide) (by omega) (by omega) (fun c90 => ?_) (fun c90 => ?_)
  · skip
    refine ab_sub (ls' := [(0, .ref 200), (2, .int (iI x)), (3, .int (iI b)), (4, .long (lL m))]) (ks := [0, 2, 3, 4]) rfl ?_
    have e : y = n := by omega
    subst e
    rw [hb]
    exact K h m hI hE (fun q => hm.1 (by omega)) (by omega)
  · skip
    refine ab_aload_n (k := 0) dX12_gate_93 rfl rfl ?_
    refine z_getP (b := 211) dX12_gate_94 fX12_55 rfl rfl rfl ?_
    refine ab_iload (k := 5) dX12_gate_97 rfl ?_
    refine z_iald dX12_gate_99 rfl (by omega) (by omega) ?_
    simp only [Int.toNat_natCast]
    refine z_is (y := zv h0 211 y) (hE y) ?_
    refine z_bipush dX12_gate_100 (by decide) ?_
    refine z_icmp_ne (tgt := 108) dX12_gate_102 (by decide) (by omega) (by decide) (fun c102 => ?_) (fun c102 => ?_)
    · skip
      refine ab_aload_n (k := 0) dX12_gate_108 rfl rfl ?_
      refine z_getP (b := 211) dX12_gate_109 fX12_55 rfl rfl rfl ?_
      refine ab_iload (k := 5) dX12_gate_112 rfl ?_
      refine z_bipush dX12_gate_114 (by decide) ?_
      refine z_iast dX12_gate_116 rfl (by omega) (by omega) ?_
      simp only [Int.toNat_natCast]
      refine ab_aload_n (k := 0) dX12_gate_117 rfl rfl ?_
      refine ab_iload_n (k := 1) dX12_gate_118 rfl rfl ?_
      refine z_iconst dX12_gate_119 ?_
      refine ab_callV (As := [.int (iI (s : Int)), .int (iI 0)]) (rest := []) dX12_gate_120 lX12_382 rfl (Nat.le_of_ble_eq_true rfl) (Nat.le_of_ble_eq_true rfl) rfl ?_
      refine c_meanNow (n := n) (s := s) (L := L) (by rw [zv_zp_a (by decide)]; exact (hI.1 200 32 (by decide)).trans hn) hn2 hs (by rw [zv_zp_a (by decide)]; exact (hI.1 207 _ (by decide)).trans hL) hL2 (by decide) (fun h1 hw1 => ?_)
      have emf : mfr h1 n = gfr (gM h0) n y := mfr_gat hn2 hr (fun j => by rw [hw1.1.1 211 j (by decide), zv_zp (by decide), hE j]; simp)
      rw [emf]
      show ab_X _ _ _ _ (.long (lL (gMean (gM h0) L n y)) :: _) _ _
      have hgm := gMean_b (g := gM h0) (L := L) (n := n) (z := y) hL2.1 hn2
      show ab_X (d + 5) mX12_gate 123 [(0, .ref 200), (1, .int (iI (s : Int))), (2, .int (iI x)), (3, .int (iI b)), (4, .long (lL m)), (6, .int (iI (y : Int)))] [.long (lL (gMean (gM h0) L n y))] h1 _
      refine ab_lstore (ls' := [(7, .long (lL (gMean (gM h0) L n y))), (0, .ref 200), (1, .int (iI (s : Int))), (2, .int (iI x)), (3, .int (iI b)), (4, .long (lL m)), (6, .int (iI (y : Int)))]) dX12_gate_123 (by decide) rfl ?_
      refine ab_aload_n (k := 1) dX12_gate_125 rfl rfl ?_
      refine z_getP (b := 211) dX12_gate_126 fX12_55 rfl rfl rfl ?_
      refine ab_iload (k := 6) dX12_gate_129 rfl ?_
      refine z_iconst dX12_gate_131 ?_
      refine z_iast dX12_gate_132 rfl (by omega) (by omega) ?_
      simp only [Int.toNat_natCast]
      refine ab_iload_n (k := 4) dX12_gate_133 rfl rfl ?_
      refine z_iconst dX12_gate_134 ?_
      refine z_icmp_eq (tgt := 149) dX12_gate_135 (by decide) (by omega) (by decide) (fun c135 => ?_) (fun c135 => ?_)
      · skip
        refine ab_iload (k := 6) dX12_gate_149 rfl ?_
        refine ab_istore_n (ls' := [(3, .int (iI (y : Int))), (7, .long (lL (gMean (gM h0) L n y))), (0, .ref 200), (1, .int (iI (s : Int))), (2, .int (iI x)), (4, .long (lL m)), (6, .int (iI (y : Int)))]) dX12_gate_151 rfl (by decide) rfl ?_
        refine ab_lload (k := 1) dX12_gate_152 rfl ?_
        refine ab_lstore (ls' := [(4, .long (lL (gMean (gM h0) L n y))), (3, .int (iI (y : Int))), (7, .long (lL (gMean (gM h0) L n y))), (0, .ref 200), (1, .int (iI (s : Int))), (2, .int (iI x)), (6, .int (iI (y : Int)))]) dX12_gate_154 (by decide) rfl ?_
        refine z_iinc (k := 6) (v := (y : Int) + 1) (ls' := [(6, .int (iI ((y : Int) + 1))), (4, .long (lL (gMean (gM h0) L n y))), (3, .int (iI (y : Int))), (7, .long (lL (gMean (gM h0) L n y))), (0, .ref 200), (1, .int (iI (s : Int))), (2, .int (iI x))]) dX12_gate_156 rfl rfl (by decide) rfl ?_
        refine ab_goto (tgt := 84) dX12_gate_159 (by decide) ?_
        refine ab_sub (ls' := [(0, .ref 200), (1, .int (iI (s : Int))), (2, .int (iI x)), (3, .int (iI (y : Int))), (4, .long (lL (gMean (gM h0) L n y))), (6, .int (iI ((y : Int) + 1)))]) (ks := [4, 5, 6, 2, 1, 0]) rfl ?_
        first
        | (have gg : gM h0 y = true := decide_eq_true (by omega)
           exact ih _ (by omega) (y + 1) _ _ _ rfl (by omega) hI hE (by rw [GT_g gg]; exact hb) ⟨fun q => by rw [GT_g gg]; exact hm.1 q, hm.2⟩)
        | (have gg : ¬ gM h0 y = true := by unfold gM; rw [decide_eq_true_iff]; omega
           have hr0 : zv h0 211 y = -1 := by have := hr y (by omega); omega
           first
           | exact ih _ (by omega) (y + 1) _ _ _ rfl (by omega) (((hI.trans (sm_zp (by decide))).trans (hw1.1.mono (by decide))).trans (sm_zp (by decide))) (gE_step hr0 hE hw1.1) (by rw [GT_f gg (by omega)]; exact hb) ⟨fun q => by rw [GT_f gg (by omega)]; exact hm.1 q, hm.2⟩
           | exact ih _ (by omega) (y + 1) _ _ _ rfl (by omega) (((hI.trans (sm_zp (by decide))).trans (hw1.1.mono (by decide))).trans (sm_zp (by decide))) (gE_step hr0 hE hw1.1) (by rw [GT_t gg (by omega)]) ⟨fun q => by rw [GT_t gg (by omega)], by omega, by omega⟩)
      · skip
        refine ab_lload (k := 0) dX12_gate_138 rfl ?_
        refine ab_lload (k := 5) dX12_gate_140 rfl ?_
        refine z_lcmp dX12_gate_142 (by omega) (by omega) (fun c142 => ?_) (fun c142 => ?_) (fun c142 => ?_)
        · skip
          refine z_if_gt (tgt := 149) dX12_gate_143 (by decide) (by decide) (fun _ => ?_) (fun c143 => absurd c143 (by decide))
          refine ab_iload (k := 6) dX12_gate_149 rfl ?_
          refine ab_istore_n (ls' := [(3, .int (iI (y : Int))), (7, .long (lL (gMean (gM h0) L n y))), (0, .ref 200), (1, .int (iI (s : Int))), (2, .int (iI x)), (4, .long (lL m)), (6, .int (iI (y : Int)))]) dX12_gate_151 rfl (by decide) rfl ?_
          refine ab_lload (k := 1) dX12_gate_152 rfl ?_
          refine ab_lstore (ls' := [(4, .long (lL (gMean (gM h0) L n y))), (3, .int (iI (y : Int))), (7, .long (lL (gMean (gM h0) L n y))), (0, .ref 200), (1, .int (iI (s : Int))), (2, .int (iI x)), (6, .int (iI (y : Int)))]) dX12_gate_154 (by decide) rfl ?_
          refine z_iinc (k := 6) (v := (y : Int) + 1) (ls' := [(6, .int (iI ((y : Int) + 1))), (4, .long (lL (gMean (gM h0) L n y))), (3, .int (iI (y : Int))), (7, .long (lL (gMean (gM h0) L n y))), (0, .ref 200), (1, .int (iI (s : Int))), (2, .int (iI x))]) dX12_gate_156 rfl rfl (by decide) rfl ?_
          refine ab_goto (tgt := 84) dX12_gate_159 (by decide) ?_
          refine ab_sub (ls' := [(0, .ref 200), (1, .int (iI (s : Int))), (2, .int (iI x)), (3, .int (iI (y : Int))), (4, .long (lL (gMean (gM h0) L n y))), (6, .int (iI ((y : Int) + 1)))]) (ks := [4, 5, 6, 2, 1, 0]) rfl ?_
          first
          | (have gg : gM h0 y = true := decide_eq_true (by omega)
             exact ih _ (by omega) (y + 1) _ _ _ rfl (by omega) hI hE (by rw [GT_g gg]; exact hb) ⟨fun q => by rw [GT_g gg]; exact hm.1 q, hm.2⟩)
          | (have gg : ¬ gM h0 y = true := by unfold gM; rw [decide_eq_true_iff]; omega
             have hr0 : zv h0 211 y = -1 := by have := hr y (by omega); omega
             first
             | exact ih _ (by omega) (y + 1) _ _ _ rfl (by omega) (((hI.trans (sm_zp (by decide))).trans (hw1.1.mono (by decide))).trans (sm_zp (by decide))) (gE_step hr0 hE hw1.1) (by rw [GT_f gg (by omega)]; exact hb) ⟨fun q => by rw [GT_f gg (by omega)]; exact hm.1 q, hm.2⟩
             | exact ih _ (by omega) (y + 1) _ _ _ rfl (by omega) (((hI.trans (sm_zp (by decide))).trans (hw1.1.mono (by decide))).trans (sm_zp (by decide))) (gE_step hr0 hE hw1.1) (by rw [GT_t gg (by omega)]) ⟨fun q => by rw [GT_t gg (by omega)], by omega, by omega⟩)
        · skip
          refine z_if_gt (tgt := 149) dX12_gate_143 (by decide) (by decide) (fun c143 => absurd c143 (by decide)) (fun _ => ?_)
          refine ab_goto (tgt := 156) dX12_gate_146 (by decide) ?_
          refine z_iinc (k := 6) (v := (y : Int) + 1) (ls' := [(6, .int (iI ((y : Int) + 1))), (7, .long (lL (gMean (gM h0) L n y))), (0, .ref 200), (1, .int (iI (s : Int))), (2, .int (iI x)), (3, .int (iI b)), (4, .long (lL m))]) dX12_gate_156 rfl rfl (by decide) rfl ?_
          refine ab_goto (tgt := 84) dX12_gate_159 (by decide) ?_
          refine ab_sub (ls' := [(0, .ref 200), (1, .int (iI (s : Int))), (2, .int (iI x)), (3, .int (iI b)), (4, .long (lL m)), (6, .int (iI ((y : Int) + 1)))]) (ks := [2, 3, 4, 5, 6, 0]) rfl ?_
          first
          | (have gg : gM h0 y = true := decide_eq_true (by omega)
             exact ih _ (by omega) (y + 1) _ _ _ rfl (by omega) hI hE (by rw [GT_g gg]; exact hb) ⟨fun q => by rw [GT_g gg]; exact hm.1 q, hm.2⟩)
          | (have gg : ¬ gM h0 y = true := by unfold gM; rw [decide_eq_true_iff]; omega
             have hr0 : zv h0 211 y = -1 := by have := hr y (by omega); omega
             first
             | exact ih _ (by omega) (y + 1) _ _ _ rfl (by omega) (((hI.trans (sm_zp (by decide))).trans (hw1.1.mono (by decide))).trans (sm_zp (by decide))) (gE_step hr0 hE hw1.1) (by rw [GT_f gg (by omega)]; exact hb) ⟨fun q => by rw [GT_f gg (by omega)]; exact hm.1 q, hm.2⟩
             | exact ih _ (by omega) (y + 1) _ _ _ rfl (by omega) (((hI.trans (sm_zp (by decide))).trans (hw1.1.mono (by decide))).trans (sm_zp (by decide))) (gE_step hr0 hE hw1.1) (by rw [GT_t gg (by omega)]) ⟨fun q => by rw [GT_t gg (by omega)], by omega, by omega⟩)
        · skip
          refine z_if_gt (tgt := 149) dX12_gate_143 (by decide) (by decide) (fun c143 => absurd c143 (by decide)) (fun _ => ?_)
          refine ab_goto (tgt := 156) dX12_gate_146 (by decide) ?_
          refine z_iinc (k := 6) (v := (y : Int) + 1) (ls' := [(6, .int (iI ((y : Int) + 1))), (7, .long (lL (gMean (gM h0) L n y))), (0, .ref 200), (1, .int (iI (s : Int))), (2, .int (iI x)), (3, .int (iI b)), (4, .long (lL m))]) dX12_gate_156 rfl rfl (by decide) rfl ?_
          refine ab_goto (tgt := 84) dX12_gate_159 (by decide) ?_
          refine ab_sub (ls' := [(0, .ref 200), (1, .int (iI (s : Int))), (2, .int (iI x)), (3, .int (iI b)), (4, .long (lL m)), (6, .int (iI ((y : Int) + 1)))]) (ks := [2, 3, 4, 5, 6, 0]) rfl ?_
          first
          | (have gg : gM h0 y = true := decide_eq_true (by omega)
             exact ih _ (by omega) (y + 1) _ _ _ rfl (by omega) hI hE (by rw [GT_g gg]; exact hb) ⟨fun q => by rw [GT_g gg]; exact hm.1 q, hm.2⟩)
          | (have gg : ¬ gM h0 y = true := by unfold gM; rw [decide_eq_true_iff]; omega
             have hr0 : zv h0 211 y = -1 := by have := hr y (by omega); omega
             first
             | exact ih _ (by omega) (y + 1) _ _ _ rfl (by omega) (((hI.trans (sm_zp (by decide))).trans (hw1.1.mono (by decide))).trans (sm_zp (by decide))) (gE_step hr0 hE hw1.1) (by rw [GT_f gg (by omega)]; exact hb) ⟨fun q => by rw [GT_f gg (by omega)]; exact hm.1 q, hm.2⟩
             | exact ih _ (by omega) (y + 1) _ _ _ rfl (by omega) (((hI.trans (sm_zp (by decide))).trans (hw1.1.mono (by decide))).trans (sm_zp (by decide))) (gE_step hr0 hE hw1.1) (by rw [GT_t gg (by omega)]) ⟨fun q => by rw [GT_t gg (by omega)], by omega, by omega⟩)
    · skip
      refine ab_goto (tgt := 156) dX12_gate_105 (by decide) ?_
      refine z_iinc (k := 5) (v := (y : Int) + 1) (ls' := [(6, .int (iI ((y : Int) + 1))), (0, .ref 200), (1, .int (iI (s : Int))), (2, .int (iI x)), (3, .int (iI b)), (4, .long (lL m))]) dX12_gate_156 rfl rfl (by decide) rfl ?_
      refine ab_goto (tgt := 84) dX12_gate_159 (by decide) ?_
      refine ab_sub (ls' := [(0, .ref 200), (1, .int (iI (s : Int))), (2, .int (iI x)), (3, .int (iI b)), (4, .long (lL m)), (6, .int (iI ((y : Int) + 1)))]) (ks := [1, 2, 3, 4, 5, 0]) rfl ?_
      first
      | (have gg : gM h0 y = true := decide_eq_true (by omega)
         exact ih _ (by omega) (y + 1) _ _ _ rfl (by omega) hI hE (by rw [GT_g gg]; exact hb) ⟨fun q => by rw [GT_g gg]; exact hm.1 q, hm.2⟩)
      | (have gg : ¬ gM h0 y = true := by unfold gM; rw [decide_eq_true_iff]; omega
         have hr0 : zv h0 211 y = -1 := by have := hr y (by omega); omega
         first
         | exact ih _ (by omega) (y + 1) _ _ _ rfl (by omega) (((hI.trans (sm_zp (by decide))).trans (hw1.1.mono (by decide))).trans (sm_zp (by decide))) (gE_step hr0 hE hw1.1) (by rw [GT_f gg (by omega)]; exact hb) ⟨fun q => by rw [GT_f gg (by omega)]; exact hm.1 q, hm.2⟩
         | exact ih _ (by omega) (y + 1) _ _ _ rfl (by omega) (((hI.trans (sm_zp (by decide))).trans (hw1.1.mono (by decide))).trans (sm_zp (by decide))) (gE_step hr0 hE hw1.1) (by rw [GT_t gg (by omega)]) ⟨fun q => by rw [GT_t gg (by omega)], by omega, by omega⟩)
def gB (h0 h : ab_H) (y : Nat) : Prop := sm [211] h0 h ∧ ∀ j, zv h 211 j = if j < y then zv h0 222 j else zv h0 211 j
theorem gB_step {h0 h : ab_H} {y : Nat} (hI : gB h0 h y) : gB h0 (zp h 211 y (zv h 222 y)) (y + 1) := by
  refine ⟨hI.1.trans (sm_zp (by decide)), fun j => ?_⟩
  rw [zv_zp (zv_R _ _ _), hI.2 j, hI.1.1 222 y (by decide)]
  by_cases e : j = y
  · subst e; rw [if_pos ⟨rfl, rfl⟩, if_pos (by omega)]
  · rw [if_neg (fun q => e q.2)]
    by_cases f : j < y
    · rw [if_pos f, if_pos (by omega)]
    · rw [if_neg f, if_neg (by omega)]
theorem lp_mgate3 {d : Nat} {Q : ab_Q} {h0 : ab_H} {x b m : Int} (hx : 0 ≤ x ∧ x ≤ 1) (hb : -1 ≤ b ∧ b ≤ 20) (K : ∀ h', gB h0 h' 20 → Q (some (.long (lL (if b = -1 then -1 else if x = 0 then b else m)))) h') : ∀ (nn : Nat) (y : Nat) (h : ab_H), 20 - y = nn → (y ≤ 20) → (gB h0 h y) → ab_X (d + 5) mX12_gate 165 [(0, .ref 200), (2, .int (iI x)), (3, .int (iI b)), (4, .long (lL m)), (6, .int (iI (y : Int)))] [] h Q := by
  intro nn
  induction nn using Nat.strongRecOn with
  | ind nn ih =>
  intro y h hnn h2 hI
  refine ab_iload (k := 4) dX12_gate_165 rfl ?_
  refine z_bipush dX12_gate_167 (by decide) ?_
  refine z_icmp_ge (tgt := 192) dX12_gate_169 (by decide) (by omega) (by decide) (fun c169 => ?_) (fun c169 => ?_)
  · skip
    refine ab_iload_n (k := 2) dX12_gate_192 rfl rfl ?_
    refine z_iconst dX12_gate_193 ?_
    refine z_icmp_ne (tgt := 203) dX12_gate_194 (by decide) (by omega) (by decide) (fun c194 => ?_) (fun c194 => ?_)
    · skip
      refine ab_iload_n (k := 1) dX12_gate_203 rfl rfl ?_
      refine z_if_ne (tgt := 212) dX12_gate_204 (by decide) (by omega) (fun c204 => ?_) (fun c204 => ?_)
      · skip
        refine ab_lload (k := 3) dX12_gate_212 rfl ?_
        refine z_lret dX12_gate_214 rfl ?_
        have e : y = 20 := by omega
        subst e
        first | (rw [if_pos (by omega)] at K; exact K h hI) | (rw [if_neg (by omega), if_pos (by omega)] at K; exact K h hI) | (rw [if_neg (by omega), if_neg (by omega)] at K; exact K h hI)
      · skip
        refine ab_iload_n (k := 2) dX12_gate_207 rfl rfl ?_
        refine z_i2l dX12_gate_208 (by omega) ?_
        refine ab_goto (tgt := 214) dX12_gate_209 (by decide) ?_
        refine z_lret dX12_gate_214 rfl ?_
        have e : y = 20 := by omega
        subst e
        first | (rw [if_pos (by omega)] at K; exact K h hI) | (rw [if_neg (by omega), if_pos (by omega)] at K; exact K h hI) | (rw [if_neg (by omega), if_neg (by omega)] at K; exact K h hI)
    · skip
      refine z_ldc2 (v := (-1)) dX12_gate_197 qX12_386 (by decide) ?_
      refine ab_goto (tgt := 214) dX12_gate_200 (by decide) ?_
      refine z_lret dX12_gate_214 rfl ?_
      have e : y = 20 := by omega
      subst e
      first | (rw [if_pos (by omega)] at K; exact K h hI) | (rw [if_neg (by omega), if_pos (by omega)] at K; exact K h hI) | (rw [if_neg (by omega), if_neg (by omega)] at K; exact K h hI)
  · skip
    refine ab_aload_n (k := 0) dX12_gate_172 rfl rfl ?_
    refine z_getP (b := 211) dX12_gate_173 fX12_55 rfl rfl rfl ?_
    refine ab_iload (k := 4) dX12_gate_176 rfl ?_
    refine ab_aload_n (k := 0) dX12_gate_178 rfl rfl ?_
    refine z_getP (b := 222) dX12_gate_179 fX12_93 rfl rfl rfl ?_
    refine ab_iload (k := 4) dX12_gate_182 rfl ?_
    refine z_iald dX12_gate_184 rfl (by omega) (by omega) ?_
    simp only [Int.toNat_natCast]
    have b1 := zv_R h 222 y
    refine z_iast dX12_gate_185 rfl (by omega) (by omega) ?_
    simp only [Int.toNat_natCast]
    refine z_iinc (k := 4) (v := (y : Int) + 1) (ls' := [(6, .int (iI ((y : Int) + 1))), (0, .ref 200), (2, .int (iI x)), (3, .int (iI b)), (4, .long (lL m))]) dX12_gate_186 rfl rfl (by decide) rfl ?_
    refine ab_goto (tgt := 165) dX12_gate_189 (by decide) ?_
    refine ab_sub (ls' := [(0, .ref 200), (2, .int (iI x)), (3, .int (iI b)), (4, .long (lL m)), (6, .int (iI ((y : Int) + 1)))]) (ks := [1, 2, 3, 4, 0]) rfl ?_
    exact ih _ (by omega) (y + 1) _ rfl (by omega) (gB_step hI)
theorem GT_congr {g g' : Nat → Bool} {L n : Nat} (hn : n ≤ 20) (h : ∀ y, y < 20 → g y = g' y) : ∀ z, z ≤ n → GT g L n z = GT g' L n z
  | 0, _ => rfl
  | z + 1, hz => by
    have ih := GT_congr (L := L) hn h z (by omega)
    have ef : ∀ z, gfr g n z = gfr g' n z := fun z => funext (fun y => by
      refine Bool.eq_iff_iff.mpr ?_
      rw [gfr_iff, gfr_iff]
      by_cases q : y < n
      · rw [h y (by omega)]
      · exact ⟨fun r => absurd r.1 q, fun r => absurd r.1 q⟩)
    have em : gMean g L n z = gMean g' L n z := by unfold gMean; rw [ef z]
    show (if _ then _ else if _ then _ else _) = (if _ then _ else if _ then _ else _)
    rw [ih, h z (by omega), em]
theorem c_mgate {d : Nat} {h : ab_H} {Q : ab_Q} {h9 : ab_H} {n s L : Nat} {x : Int} (e9 : zp h 200 0 0 = h9) (hn : zv h9 200 32 = n) (hn2 : n ≤ 20) (hs : s < 4) (hL : zv h9 207 (2 * s) = L) (hL2 : 1 ≤ L ∧ L ≤ 9) (hv : (s : Int) < zv h9 200 24) (hx : 0 ≤ x ∧ x ≤ 1) (K : ∀ h', sm [211, 217, 222] h9 h' → (∀ j, zv h' 211 j = zv h9 211 j) → Q (some (.long (lL (if x = 0 then (GT (gM h9) L n n).1 else (GT (gM h9) L n n).2)))) h') : ab_X (d + 5) mX12_gate 0 (lv_args 0 [.ref 200, .int (iI (s : Int)), .int (iI x)]) [] h Q := by
  show ab_X (d + 5) mX12_gate 0 [(0, .ref 200), (1, .int (iI (s : Int))), (2, .int (iI x))] [] h Q
  refine ab_aload_n (k := 0) dX12_gate_0 rfl rfl ?_
  refine z_iconst dX12_gate_1 ?_
  refine z_putI dX12_gate_2 fX12_111 rfl rfl ?_
  rw [e9]
  refine ab_aload_n (k := 0) dX12_gate_5 rfl rfl ?_
  refine ab_iload_n (k := 1) dX12_gate_6 rfl rfl ?_
  refine ab_callV (As := [.int (iI (s : Int))]) (rest := []) dX12_gate_7 lX12_307 rfl (Nat.le_of_ble_eq_true rfl) (Nat.le_of_ble_eq_true rfl) rfl ?_
  refine c_misSort (by omega) (fun g7 => ?_) (fun g7 => ?_)
  · skip
    try simp only [Int.toNat_natCast] at g7
    have gL := g7
    show ab_X (d + 5) mX12_gate 10 [(0, .ref 200), (1, .int (iI (s : Int))), (2, .int (iI x))] [.int (iI 1)] h9 _
    refine z_if_eq (tgt := 23) dX12_gate_10 (by decide) (by decide) (fun c10 => absurd c10 (by decide)) (fun _ => ?_)
    refine ab_iload_n (k := 2) dX12_gate_13 rfl rfl ?_
    refine z_i2l dX12_gate_14 (by omega) ?_
    refine z_lconst (v := 0) dX12_gate_15 (by decide) ?_
    refine z_lconst (v := 1) dX12_gate_16 (by decide) ?_
    refine ab_callS (As := [.long (lL x), .long (lL 0), .long (lL 1)]) (rest := []) dX12_gate_17 lX12_232 (Nat.le_of_ble_eq_true rfl) (Nat.le_of_ble_eq_true rfl) rfl ?_
    refine c_isIn (by omega) (by omega) (by omega) (fun g17 => ?_) (fun g17 => ?_)
    · skip
      try simp only [Int.toNat_natCast] at g17
      have gL := g17
      show ab_X (d + 5) mX12_gate 20 [(0, .ref 200), (1, .int (iI (s : Int))), (2, .int (iI x))] [.int (iI 1)] h9 _
      refine z_if_ne (tgt := 27) dX12_gate_20 (by decide) (by decide) (fun _ => ?_) (fun c20 => absurd c20 (by decide))
      refine z_iconst dX12_gate_27 ?_
      refine ab_istore_n (ls' := [(3, .int (iI 0)), (0, .ref 200), (1, .int (iI (s : Int))), (2, .int (iI x))]) dX12_gate_28 rfl (by decide) rfl ?_
      refine ab_sub (ls' := [(0, .ref 200), (1, .int (iI (s : Int))), (2, .int (iI x)), (3, .int (iI 0))]) (ks := [1, 2, 3, 0]) rfl ?_
      refine lp_mgate1 (fun h1 hA => ?_) _ 0 h9 rfl (by omega) ⟨sm.refl, fun j => by rw [if_neg (by omega)], fun j => by rw [if_neg (by omega)]⟩
      refine z_iconst dX12_gate_76 ?_
      refine ab_istore_n (ls' := [(3, .int (iI (-1))), (0, .ref 200), (1, .int (iI (s : Int))), (2, .int (iI x))]) dX12_gate_77 rfl (by decide) rfl ?_
      refine z_lconst (v := 0) dX12_gate_78 (by decide) ?_
      refine ab_lstore (ls' := [(4, .long (lL 0)), (3, .int (iI (-1))), (0, .ref 200), (1, .int (iI (s : Int))), (2, .int (iI x))]) dX12_gate_79 (by decide) rfl ?_
      refine z_iconst dX12_gate_81 ?_
      refine ab_istore (ls' := [(6, .int (iI 0)), (4, .long (lL 0)), (3, .int (iI (-1))), (0, .ref 200), (1, .int (iI (s : Int))), (2, .int (iI x))]) dX12_gate_82 (by decide) rfl ?_
      refine ab_sub (ls' := [(0, .ref 200), (1, .int (iI (s : Int))), (2, .int (iI x)), (3, .int (iI (-1))), (4, .long (lL 0)), (6, .int (iI 0))]) (ks := [3, 4, 5, 2, 1, 0]) rfl ?_
      refine lp_mgate2 (h0 := h1) (n := n) (L := L) ((hA.1.1 200 32 (by decide)).trans hn) hn2 hs ((hA.1.1 207 _ (by decide)).trans hL) hL2 (fun y hy => by rw [hA.2.2 y, if_pos hy]; split; exact Or.inl rfl; exact Or.inr rfl) (fun h2 m hsm2 hE2 hmm hmL => ?_) _ 0 _ _ h1 rfl (by omega) sm.refl (fun _ => rfl) rfl ⟨fun q => absurd rfl q, by decide, by decide⟩
      refine z_iconst dX12_gate_162 ?_
      refine ab_istore (ls' := [(6, .int (iI 0)), (0, .ref 200), (2, .int (iI x)), (3, .int (iI ((GT (gM h1) L n n).1))), (4, .long (lL m))]) dX12_gate_163 (by decide) rfl ?_
      refine ab_sub (ls' := [(0, .ref 200), (2, .int (iI x)), (3, .int (iI ((GT (gM h1) L n n).1))), (4, .long (lL m)), (6, .int (iI 0))]) (ks := [1, 2, 3, 4, 0]) rfl ?_
      refine lp_mgate3 hx (by have := GT_b (g := gM h1) (L := L) (n := n) hL2.1 hn2 n; omega) (fun h3 hB => ?_) _ 0 h2 rfl (by omega) ⟨sm.refl, fun j => by rw [if_neg (by omega)]⟩
      have egm : ∀ y, y < 20 → gM h1 y = gM h9 y := fun y hy => by
        unfold gM; rw [hA.2.2 y, if_pos hy]
        refine decide_eq_decide.mpr ?_
        split
        · rename_i q; exact ⟨fun _ => q, fun _ => rfl⟩
        · rename_i q; exact ⟨fun z => absurd z (by decide), fun z => absurd z q⟩
      have eG := GT_congr (L := L) hn2 egm n (Nat.le_refl n)
      have hgb := GT_b (g := gM h9) (L := L) (n := n) hL2.1 hn2 n
      rw [eG] at hmm
      rw [eG]
      have ev : (if (GT (gM h9) L n n).1 = -1 then (-1 : Int) else if x = 0 then (GT (gM h9) L n n).1 else m) = if x = 0 then (GT (gM h9) L n n).1 else (GT (gM h9) L n n).2 := by
        by_cases q : (GT (gM h9) L n n).1 = -1
        · rw [if_pos q, q, hgb.2.2.2.2.mp q]; split <;> rfl
        · rw [if_neg q, hmm q]
      rw [ev]
      refine K h3 (((hA.1.mono (by decide)).trans (hsm2.mono (by decide))).trans (hB.1.mono (by decide))) (fun j => ?_)
      rw [hB.2 j, hE2 j, hsm2.1 222 j (by decide), hA.2.1 j, hA.2.2 j]
      by_cases q : j < 20
      · rw [if_pos q, if_pos q]
      · rw [if_neg q, if_neg q]
    · skip
      try simp only [Int.toNat_natCast] at g17
      have gL := g17
      show ab_X (d + 5) mX12_gate 20 [(0, .ref 200), (1, .int (iI (s : Int))), (2, .int (iI x))] [.int (iI 0)] h9 _
      refine z_if_ne (tgt := 27) dX12_gate_20 (by decide) (by decide) (fun c20 => absurd c20 (by decide)) (fun _ => ?_)
      refine z_ldc2 (v := (-1)) dX12_gate_23 qX12_386 (by decide) ?_
      refine z_lret dX12_gate_26 rfl ?_
      exact absurd gL (by omega)
  · skip
    try simp only [Int.toNat_natCast] at g7
    have gL := g7
    show ab_X (d + 5) mX12_gate 10 [(0, .ref 200), (1, .int (iI (s : Int))), (2, .int (iI x))] [.int (iI 0)] h9 _
    refine z_if_eq (tgt := 23) dX12_gate_10 (by decide) (by decide) (fun _ => ?_) (fun c10 => absurd c10 (by decide))
    refine z_ldc2 (v := (-1)) dX12_gate_23 qX12_386 (by decide) ?_
    refine z_lret dX12_gate_26 rfl ?_
    exact absurd gL (by omega)
theorem c_mgate0 {d : Nat} {h : ab_H} {Q : ab_Q} {h9 : ab_H} {s x : Int} (e9 : zp h 200 0 0 = h9) (hs : inR s) (hx : inR x) (hno : ¬ ((0 ≤ s ∧ s < zv h9 200 24) ∧ 0 ≤ x ∧ x ≤ 1)) (K : Q (some (.long (lL (-1)))) h9) : ab_X (d + 5) mX12_gate 0 (lv_args 0 [.ref 200, .int (iI s), .int (iI x)]) [] h Q := by
  show ab_X (d + 5) mX12_gate 0 [(0, .ref 200), (1, .int (iI s)), (2, .int (iI x))] [] h Q
  refine ab_aload_n (k := 0) dX12_gate_0 rfl rfl ?_
  refine z_iconst dX12_gate_1 ?_
  refine z_putI dX12_gate_2 fX12_111 rfl rfl ?_
  rw [e9]
  refine ab_aload_n (k := 0) dX12_gate_5 rfl rfl ?_
  refine ab_iload_n (k := 1) dX12_gate_6 rfl rfl ?_
  refine ab_callV (As := [.int (iI s)]) (rest := []) dX12_gate_7 lX12_307 rfl (Nat.le_of_ble_eq_true rfl) (Nat.le_of_ble_eq_true rfl) rfl ?_
  refine c_misSort (by omega) (fun g7 => ?_) (fun g7 => ?_)
  · skip
    try simp only [Int.toNat_natCast] at g7
    have gL := g7
    show ab_X (d + 5) mX12_gate 10 [(0, .ref 200), (1, .int (iI s)), (2, .int (iI x))] [.int (iI 1)] h9 _
    refine z_if_eq (tgt := 23) dX12_gate_10 (by decide) (by decide) (fun c10 => absurd c10 (by decide)) (fun _ => ?_)
    refine ab_iload_n (k := 2) dX12_gate_13 rfl rfl ?_
    refine z_i2l dX12_gate_14 (by omega) ?_
    refine z_lconst (v := 0) dX12_gate_15 (by decide) ?_
    refine z_lconst (v := 1) dX12_gate_16 (by decide) ?_
    refine ab_callS (As := [.long (lL x), .long (lL 0), .long (lL 1)]) (rest := []) dX12_gate_17 lX12_232 (Nat.le_of_ble_eq_true rfl) (Nat.le_of_ble_eq_true rfl) rfl ?_
    refine c_isIn (by omega) (by omega) (by omega) (fun g17 => ?_) (fun g17 => ?_)
    · skip
      try simp only [Int.toNat_natCast] at g17
      have gL := g17
      show ab_X (d + 5) mX12_gate 20 [(0, .ref 200), (1, .int (iI s)), (2, .int (iI x))] [.int (iI 1)] h9 _
      refine z_if_ne (tgt := 27) dX12_gate_20 (by decide) (by decide) (fun _ => ?_) (fun c20 => absurd c20 (by decide))
      refine ab_sub (ls' := [(0, .ref 200), (1, .int (iI s)), (2, .int (iI x))]) (ks := [0, 1, 2]) rfl ?_
      first | exact K | exact absurd hno (by omega)
    · skip
      try simp only [Int.toNat_natCast] at g17
      have gL := g17
      show ab_X (d + 5) mX12_gate 20 [(0, .ref 200), (1, .int (iI s)), (2, .int (iI x))] [.int (iI 0)] h9 _
      refine z_if_ne (tgt := 27) dX12_gate_20 (by decide) (by decide) (fun c20 => absurd c20 (by decide)) (fun _ => ?_)
      refine z_ldc2 (v := (-1)) dX12_gate_23 qX12_386 (by decide) ?_
      refine z_lret dX12_gate_26 rfl ?_
      first | exact K | exact absurd hno (by omega)
  · skip
    try simp only [Int.toNat_natCast] at g7
    have gL := g7
    show ab_X (d + 5) mX12_gate 10 [(0, .ref 200), (1, .int (iI s)), (2, .int (iI x))] [.int (iI 0)] h9 _
    refine z_if_eq (tgt := 23) dX12_gate_10 (by decide) (by decide) (fun _ => ?_) (fun c10 => absurd c10 (by decide))
    refine z_ldc2 (v := (-1)) dX12_gate_23 qX12_386 (by decide) ?_
    refine z_lret dX12_gate_26 rfl ?_
    first | exact K | exact absurd hno (by omega)
