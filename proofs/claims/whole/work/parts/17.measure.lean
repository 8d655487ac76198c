/-! CONTRACTS OF THE CLASS: the gaps measured -/
def scan (fr : Nat → Bool) : Nat → Nat × (Nat → Nat) × (Nat → Nat)
  | 0 => (0, fun _ => 0, fun _ => 0)
  | y + 1 => if fr y = true then (if 0 < y ∧ fr (y - 1) = true then ((scan fr y).1, (scan fr y).2.1, fun i => if i + 1 = (scan fr y).1 then (scan fr y).2.2 i + 1 else (scan fr y).2.2 i) else ((scan fr y).1 + 1, (fun i => if i = (scan fr y).1 then y else (scan fr y).2.1 i), fun i => if i = (scan fr y).1 then 1 else (scan fr y).2.2 i)) else scan fr y
theorem scan_no {fr : Nat → Bool} {y : Nat} (h : ¬ fr y = true) : scan fr (y + 1) = scan fr y := by simp only [scan, if_neg h]
theorem scan_ext {fr : Nat → Bool} {y : Nat} (h : fr y = true) (h2 : 0 < y ∧ fr (y - 1) = true) : scan fr (y + 1) = ((scan fr y).1, (scan fr y).2.1, fun i => if i + 1 = (scan fr y).1 then (scan fr y).2.2 i + 1 else (scan fr y).2.2 i) := by simp only [scan, if_pos h, if_pos h2]
theorem scan_new {fr : Nat → Bool} {y : Nat} (h : fr y = true) (h2 : ¬ (0 < y ∧ fr (y - 1) = true)) : scan fr (y + 1) = ((scan fr y).1 + 1, (fun i => if i = (scan fr y).1 then y else (scan fr y).2.1 i), fun i => if i = (scan fr y).1 then 1 else (scan fr y).2.2 i) := by simp only [scan, if_pos h, if_neg h2]
theorem scan_b (fr : Nat → Bool) : ∀ y, (scan fr y).1 ≤ y ∧ (0 < y ∧ fr (y - 1) = true → 0 < (scan fr y).1) ∧ ∀ i, i < (scan fr y).1 → (scan fr y).2.1 i < y ∧ 1 ≤ (scan fr y).2.2 i ∧ (scan fr y).2.1 i + (scan fr y).2.2 i ≤ y
  | 0 => ⟨Nat.le_refl 0, fun h => absurd h.1 (by omega), fun i hi => absurd hi (by simp [scan])⟩
  | y + 1 => by
    obtain ⟨a, b, c⟩ := scan_b fr y
    by_cases h : fr y = true
    · by_cases h2 : 0 < y ∧ fr (y - 1) = true
      · rw [scan_ext h h2]
        refine ⟨by show (scan fr y).1 ≤ y + 1; omega, fun _ => b h2, fun i hi => ?_⟩
        have := c i hi
        dsimp only
        split <;> omega
      · rw [scan_new h h2]
        refine ⟨by show (scan fr y).1 + 1 ≤ y + 1; omega, fun _ => by show 0 < (scan fr y).1 + 1; omega, fun i hi => ?_⟩
        have hi' : i < (scan fr y).1 + 1 := hi
        dsimp only
        by_cases e : i = (scan fr y).1
        · rw [if_pos e, if_pos e]; omega
        · rw [if_neg e, if_neg e]; have := c i (by omega); omega
    · rw [scan_no h]
      exact ⟨by omega, fun q => absurd q.2 (by simpa using h), fun i hi => by have := c i hi; omega⟩
def GR (h : ab_H) (S : Nat × (Nat → Nat) × (Nat → Nat)) : Prop := zv h 167 2 = S.1 ∧ ∀ i, i < S.1 → zv h 168 i = S.2.1 i ∧ zv h 169 i = S.2.2 i
def frm (h : ab_H) (r : Nat) (shut : Int) (y : Nat) : Bool := decide (zv h 18 y = 0 ∧ zv h (r + 1) y = -1 ∧ ¬ (y : Int) = shut)
theorem GR_ext {h : ab_H} {fr : Nat → Bool} {y g1 : Nat} (hG : GR h (scan fr y)) (hf : fr y = true) (ho : 0 < y ∧ fr (y - 1) = true) (hg : (scan fr y).1 = g1 + 1) (hy : y < 20) : GR (zp h 169 g1 (zv h 169 g1 + 1)) (scan fr (y + 1)) := by
  have hb := (scan_b fr y).2.2 g1 (by omega)
  have h1 := hG.2 g1 (by omega)
  rw [scan_ext hf ho]
  refine ⟨by rw [zv_zp_a (by decide)]; exact hG.1, fun i hi => ?_⟩
  have h2 := hG.2 i hi
  rw [zv_zp_a (by decide), zv_zp (by omega)]
  refine ⟨h2.1, ?_⟩
  dsimp only
  by_cases e : i = g1
  · rw [if_pos ⟨rfl, e⟩, if_pos (by omega), e]; omega
  · rw [if_neg (fun q => e q.2), if_neg (by omega)]; exact h2.2
theorem GR_new {h : ab_H} {fr : Nat → Bool} {y g : Nat} (hG : GR h (scan fr y)) (hf : fr y = true) (ho : ¬ (0 < y ∧ fr (y - 1) = true)) (hg : (scan fr y).1 = g) (hy : y < 20) : GR (zp (zp (zp (zp h 168 g (y : Int)) 169 g 0) 167 2 ((g : Int) + 1)) 169 g (0 + 1)) (scan fr (y + 1)) := by
  have hb := (scan_b fr y).1
  rw [scan_new hf ho]
  refine ⟨by rw [zv_zp_a (by decide), zv_zp_s (by omega)]; dsimp only; omega, fun i hi => ?_⟩
  have hi' : i < (scan fr y).1 + 1 := hi
  have e1 : zv (zp (zp (zp (zp h 168 g (y : Int)) 169 g 0) 167 2 ((g : Int) + 1)) 169 g (0 + 1)) 168 i = if i = g then (y : Int) else zv h 168 i := by
    rw [zv_zp_a (by decide), zv_zp_a (by decide), zv_zp_a (by decide), zv_zp (by omega)]; simp
  have e2 : zv (zp (zp (zp (zp h 168 g (y : Int)) 169 g 0) 167 2 ((g : Int) + 1)) 169 g (0 + 1)) 169 i = if i = g then 1 else zv h 169 i := by
    rw [zv_zp (by decide), zv_zp_a (by decide), zv_zp (by decide), zv_zp_a (by decide)]; by_cases e : i = g <;> simp [e]
  rw [e1, e2]
  dsimp only
  by_cases e : i = g
  · rw [if_pos e, if_pos e, if_pos (by omega), if_pos (by omega)]; exact ⟨rfl, rfl⟩
  · rw [if_neg e, if_neg e, if_neg (by omega), if_neg (by omega)]
    exact hG.2 i (by omega)
theorem lp_measure {d : Nat} {Q : ab_Q} {h0 : ab_H} {r n : Nat} {shut : Int} (hr9 : r = 36 ∨ r = 39) (hn : zv h0 15 0 = n) (hn2 : n ≤ 20) (hs : inR shut) (K : ∀ h', sm [167, 168, 169] h0 h' → GR h' (scan (frm h0 r shut) n) → Q none h') : ∀ (nn : Nat) (y : Nat) (o : Int) (h : ab_H), n - y = nn → (y ≤ n) → (sm [167, 168, 169] h0 h) → (GR h (scan (frm h0 r shut) y)) → ((o = 1 ∧ 0 < y ∧ frm h0 r shut (y - 1) = true) ∨ (o = 0 ∧ ¬ (0 < y ∧ frm h0 r shut (y - 1) = true))) → ab_X (d + 2) mX2_measure 11 [(0, .ref 167), (1, .ref 15), (2, .ref r), (3, .int (iI shut)), (4, .int (iI o)), (5, .int (iI (y : Int)))] [] h Q := by
  intro nn
  induction nn using Nat.strongRecOn with
  | ind nn ih =>
  intro y o h hnn h2 hsm hG ho
  have hn15 : zv h 15 0 = n := (hsm.1 15 0 (by decide)).trans hn
  have hsb := scan_b (frm h0 r shut) y
  obtain ⟨g, hgd⟩ : ∃ g : Nat, (scan (frm h0 r shut) y).1 = g := ⟨_, rfl⟩
  have hgz : zv h 167 2 = (g : Int) := by rw [← hgd]; exact hG.1
  have hrn : r + 1 ∉ [167, 168, 169] := by rcases hr9 with rfl | rfl <;> decide
  have ep : zv h (r + 1) y = zv h0 (r + 1) y := hsm.1 _ _ hrn
  have eg : zv h 18 y = zv h0 18 y := hsm.1 18 y (by decide)
  have bp := zv_R h0 (r + 1) y
  refine ab_iload (k := 5) dX2_measure_11 rfl ?_
  refine ab_aload_n (k := 1) dX2_measure_13 rfl rfl ?_
  refine z_getI dX2_measure_14 fX2_22 rfl (Or.inl rfl) ?_
  refine z_is (y := (n : Int)) hn15 ?_
  refine z_icmp_ge (tgt := 139) dX2_measure_17 (by decide) (by omega) (by omega) (fun c17 => ?_) (fun c17 => ?_)
  · skip
    refine z_vret dX2_measure_139 rfl ?_
    have e : y = n := by omega
    subst e
    exact K h hsm hG
  · skip
    refine ab_aload_n (k := 1) dX2_measure_20 rfl rfl ?_
    refine ab_iload (k := 5) dX2_measure_21 rfl ?_
    refine ab_callV (As := [.int (iI (y : Int))]) (rest := []) dX2_measure_23 lX2_27 rfl (Nat.le_of_ble_eq_true rfl) (Nat.le_of_ble_eq_true rfl) rfl ?_
    refine c_isGate (by omega) (by omega) (fun g23 => ?_) (fun g23 => ?_)
    · skip
      try simp only [Int.toNat_natCast] at g23
      show ab_X (d + 2) mX2_measure 26 [(0, .ref 167), (1, .ref 15), (2, .ref r), (3, .int (iI shut)), (4, .int (iI o)), (5, .int (iI (y : Int)))] [.int (iI 1)] h _
      refine z_if_ne (tgt := 49) dX2_measure_26 (by decide) (by decide) (fun _ => ?_) (fun c26 => absurd c26 (by decide))
      refine z_iconst dX2_measure_49 ?_
      refine ab_istore (ls' := [(6, .int (iI 0)), (0, .ref 167), (1, .ref 15), (2, .ref r), (3, .int (iI shut)), (4, .int (iI o)), (5, .int (iI (y : Int)))]) dX2_measure_50 (by decide) rfl ?_
      refine ab_iload (k := 0) dX2_measure_52 rfl ?_
      refine z_if_eq (tgt := 102) dX2_measure_54 (by decide) (by decide) (fun _ => ?_) (fun c54 => absurd c54 (by decide))
      refine ab_iload (k := 0) dX2_measure_102 rfl ?_
      refine z_if_eq (tgt := 129) dX2_measure_104 (by decide) (by decide) (fun _ => ?_) (fun c104 => absurd c104 (by decide))
      refine ab_iload (k := 0) dX2_measure_129 rfl ?_
      refine ab_istore (ls' := [(4, .int (iI 0)), (6, .int (iI 0)), (0, .ref 167), (1, .ref 15), (2, .ref r), (3, .int (iI shut)), (5, .int (iI (y : Int)))]) dX2_measure_131 (by decide) rfl ?_
      refine z_iinc (k := 6) (v := (y : Int) + 1) (ls' := [(5, .int (iI ((y : Int) + 1))), (4, .int (iI 0)), (6, .int (iI 0)), (0, .ref 167), (1, .ref 15), (2, .ref r), (3, .int (iI shut))]) dX2_measure_133 rfl rfl (by decide) rfl ?_
      refine ab_goto (tgt := 11) dX2_measure_136 (by decide) ?_
      refine ab_sub (ls' := [(0, .ref 167), (1, .ref 15), (2, .ref r), (3, .int (iI shut)), (4, .int (iI 0)), (5, .int (iI ((y : Int) + 1)))]) (ks := [3, 4, 5, 6, 1, 0]) rfl ?_
      exact ih _ (by omega) (y + 1) 0 h rfl (by omega) hsm (by rw [scan_no (by simp [frm]; intro q; exact absurd q (by rw [← eg]; exact g23.2.2))]; exact hG) (Or.inr ⟨rfl, fun q => absurd q.2 (by rw [Nat.add_sub_cancel]; simp [frm]; intro q; exact absurd q (by rw [← eg]; exact g23.2.2))⟩)
    · skip
      try simp only [Int.toNat_natCast] at g23
      show ab_X (d + 2) mX2_measure 26 [(0, .ref 167), (1, .ref 15), (2, .ref r), (3, .int (iI shut)), (4, .int (iI o)), (5, .int (iI (y : Int)))] [.int (iI 0)] h _
      refine z_if_ne (tgt := 49) dX2_measure_26 (by decide) (by decide) (fun c26 => absurd c26 (by decide)) (fun _ => ?_)
      refine ab_aload_n (k := 2) dX2_measure_29 rfl rfl ?_
      refine ab_iload (k := 5) dX2_measure_30 rfl ?_
      refine ab_callV (As := [.int (iI (y : Int))]) (rest := []) dX2_measure_32 lX2_31 (by rcases hr9 with rfl | rfl <;> rfl) (Nat.le_of_ble_eq_true rfl) (Nat.le_of_ble_eq_true rfl) rfl ?_
      refine c_placeAt (by rcases hr9 with rfl | rfl <;> rfl) (by rcases hr9 with rfl | rfl <;> rfl) (by rcases hr9 with rfl | rfl <;> rfl) (by omega) (fun _ => ?_) (fun q => absurd (show _ from ⟨by omega, by omega⟩) q)
      have bp32 := zv_R h (r + 1) y
      show ab_X (d + 2) mX2_measure 35 [(0, .ref 167), (1, .ref 15), (2, .ref r), (3, .int (iI shut)), (4, .int (iI o)), (5, .int (iI (y : Int)))] [.int (iI (zv h (r + 1) y))] h _
      refine z_iconst dX2_measure_35 ?_
      refine z_icmp_ne (tgt := 49) dX2_measure_36 (by decide) (by omega) (by decide) (fun c36 => ?_) (fun c36 => ?_)
      · skip
        refine z_iconst dX2_measure_49 ?_
        refine ab_istore (ls' := [(6, .int (iI 0)), (0, .ref 167), (1, .ref 15), (2, .ref r), (3, .int (iI shut)), (4, .int (iI o)), (5, .int (iI (y : Int)))]) dX2_measure_50 (by decide) rfl ?_
        refine ab_iload (k := 0) dX2_measure_52 rfl ?_
        refine z_if_eq (tgt := 102) dX2_measure_54 (by decide) (by decide) (fun _ => ?_) (fun c54 => absurd c54 (by decide))
        refine ab_iload (k := 0) dX2_measure_102 rfl ?_
        refine z_if_eq (tgt := 129) dX2_measure_104 (by decide) (by decide) (fun _ => ?_) (fun c104 => absurd c104 (by decide))
        refine ab_iload (k := 0) dX2_measure_129 rfl ?_
        refine ab_istore (ls' := [(4, .int (iI 0)), (6, .int (iI 0)), (0, .ref 167), (1, .ref 15), (2, .ref r), (3, .int (iI shut)), (5, .int (iI (y : Int)))]) dX2_measure_131 (by decide) rfl ?_
        refine z_iinc (k := 6) (v := (y : Int) + 1) (ls' := [(5, .int (iI ((y : Int) + 1))), (4, .int (iI 0)), (6, .int (iI 0)), (0, .ref 167), (1, .ref 15), (2, .ref r), (3, .int (iI shut))]) dX2_measure_133 rfl rfl (by decide) rfl ?_
        refine ab_goto (tgt := 11) dX2_measure_136 (by decide) ?_
        refine ab_sub (ls' := [(0, .ref 167), (1, .ref 15), (2, .ref r), (3, .int (iI shut)), (4, .int (iI 0)), (5, .int (iI ((y : Int) + 1)))]) (ks := [3, 4, 5, 6, 1, 0]) rfl ?_
        exact ih _ (by omega) (y + 1) 0 h rfl (by omega) hsm (by rw [scan_no (by simp [frm]; intro q1 q2; exact absurd q2 (by rw [← ep]; assumption))]; exact hG) (Or.inr ⟨rfl, fun q => absurd q.2 (by rw [Nat.add_sub_cancel]; simp [frm]; intro q1 q2; exact absurd q2 (by rw [← ep]; assumption))⟩)
      · skip
        refine ab_iload (k := 5) dX2_measure_39 rfl ?_
        refine ab_iload_n (k := 3) dX2_measure_41 rfl rfl ?_
        refine z_icmp_eq (tgt := 49) dX2_measure_42 (by decide) (by omega) (by omega) (fun c42 => ?_) (fun c42 => ?_)
        · skip
          refine z_iconst dX2_measure_49 ?_
          refine ab_istore (ls' := [(6, .int (iI 0)), (0, .ref 167), (1, .ref 15), (2, .ref r), (3, .int (iI shut)), (4, .int (iI o)), (5, .int (iI (y : Int)))]) dX2_measure_50 (by decide) rfl ?_
          refine ab_iload (k := 0) dX2_measure_52 rfl ?_
          refine z_if_eq (tgt := 102) dX2_measure_54 (by decide) (by decide) (fun _ => ?_) (fun c54 => absurd c54 (by decide))
          refine ab_iload (k := 0) dX2_measure_102 rfl ?_
          refine z_if_eq (tgt := 129) dX2_measure_104 (by decide) (by decide) (fun _ => ?_) (fun c104 => absurd c104 (by decide))
          refine ab_iload (k := 0) dX2_measure_129 rfl ?_
          refine ab_istore (ls' := [(4, .int (iI 0)), (6, .int (iI 0)), (0, .ref 167), (1, .ref 15), (2, .ref r), (3, .int (iI shut)), (5, .int (iI (y : Int)))]) dX2_measure_131 (by decide) rfl ?_
          refine z_iinc (k := 6) (v := (y : Int) + 1) (ls' := [(5, .int (iI ((y : Int) + 1))), (4, .int (iI 0)), (6, .int (iI 0)), (0, .ref 167), (1, .ref 15), (2, .ref r), (3, .int (iI shut))]) dX2_measure_133 rfl rfl (by decide) rfl ?_
          refine ab_goto (tgt := 11) dX2_measure_136 (by decide) ?_
          refine ab_sub (ls' := [(0, .ref 167), (1, .ref 15), (2, .ref r), (3, .int (iI shut)), (4, .int (iI 0)), (5, .int (iI ((y : Int) + 1)))]) (ks := [3, 4, 5, 6, 1, 0]) rfl ?_
          exact ih _ (by omega) (y + 1) 0 h rfl (by omega) hsm (by rw [scan_no (by simp [frm]; intro q1 q2; omega)]; exact hG) (Or.inr ⟨rfl, fun q => absurd q.2 (by rw [Nat.add_sub_cancel]; simp [frm]; intro q1 q2; omega)⟩)
        · skip
          refine z_iconst dX2_measure_45 ?_
          refine ab_goto (tgt := 50) dX2_measure_46 (by decide) ?_
          refine ab_istore (ls' := [(6, .int (iI 1)), (0, .ref 167), (1, .ref 15), (2, .ref r), (3, .int (iI shut)), (4, .int (iI o)), (5, .int (iI (y : Int)))]) dX2_measure_50 (by decide) rfl ?_
          refine ab_iload (k := 0) dX2_measure_52 rfl ?_
          refine z_if_eq (tgt := 102) dX2_measure_54 (by decide) (by decide) (fun c54 => absurd c54 (by decide)) (fun _ => ?_)
          refine ab_iload (k := 5) dX2_measure_57 rfl ?_
          refine z_if_ne (tgt := 102) dX2_measure_59 (by decide) (by omega) (fun c59 => ?_) (fun c59 => ?_)
          · skip
            refine ab_iload (k := 0) dX2_measure_102 rfl ?_
            refine z_if_eq (tgt := 129) dX2_measure_104 (by decide) (by decide) (fun c104 => absurd c104 (by decide)) (fun _ => ?_)
            have hgo : ¬ o = 0 → 0 < g := fun q => by rcases ho with ho | ho; have := hsb.2.1 ho.2; omega; exact absurd ho.1 q
            refine ab_aload_n (k := 1) dX2_measure_107 rfl rfl ?_
            refine z_getI dX2_measure_108 fX2_18 rfl (Or.inl rfl) ?_
            refine z_is (y := (g : Int)) hgz ?_
            refine z_if_le (tgt := 129) dX2_measure_111 (by decide) (by omega) (fun c111 => ?_) (fun c111 => ?_)
            · skip
              refine ab_iload (k := 0) dX2_measure_129 rfl ?_
              refine ab_istore (ls' := [(4, .int (iI 1)), (6, .int (iI 1)), (0, .ref 167), (1, .ref 15), (2, .ref r), (3, .int (iI shut)), (5, .int (iI (y : Int)))]) dX2_measure_131 (by decide) rfl ?_
              refine z_iinc (k := 6) (v := (y : Int) + 1) (ls' := [(5, .int (iI ((y : Int) + 1))), (4, .int (iI 1)), (6, .int (iI 1)), (0, .ref 167), (1, .ref 15), (2, .ref r), (3, .int (iI shut))]) dX2_measure_133 rfl rfl (by decide) rfl ?_
              refine ab_goto (tgt := 11) dX2_measure_136 (by decide) ?_
              refine ab_sub (ls' := [(0, .ref 167), (1, .ref 15), (2, .ref r), (3, .int (iI shut)), (4, .int (iI 1)), (5, .int (iI ((y : Int) + 1)))]) (ks := [3, 4, 5, 6, 1, 0]) rfl ?_
              exact absurd (hgo c59) (by omega)
            · skip
              obtain ⟨g1, hg1⟩ : ∃ z : Nat, 0 < g → g = z + 1 := ⟨g - 1, fun _ => by omega⟩
              refine ab_aload_n (k := 1) dX2_measure_114 rfl rfl ?_
              refine z_getP (b := 169) dX2_measure_115 fX2_15 rfl rfl rfl ?_
              refine ab_aload_n (k := 1) dX2_measure_118 rfl rfl ?_
              refine z_getI dX2_measure_119 fX2_18 rfl (Or.inl rfl) ?_
              refine z_is (y := (g : Int)) hgz ?_
              refine z_iconst dX2_measure_122 ?_
              refine z_isub dX2_measure_123 ?_
              refine z_is (y := (g1 : Int)) (by omega) ?_
              refine ab_dup2 dX2_measure_124 rfl rfl ?_
              refine z_iald dX2_measure_125 rfl (by omega) (by omega) ?_
              simp only [Int.toNat_natCast]
              have b1 := zv_R h 169 g1
              refine z_iconst dX2_measure_126 ?_
              refine z_iadd dX2_measure_127 ?_
              refine z_iast dX2_measure_128 rfl (by omega) (by omega) ?_
              simp only [Int.toNat_natCast]
              refine ab_iload (k := 0) dX2_measure_129 rfl ?_
              refine ab_istore (ls' := [(4, .int (iI 1)), (6, .int (iI 1)), (0, .ref 167), (1, .ref 15), (2, .ref r), (3, .int (iI shut)), (5, .int (iI (y : Int)))]) dX2_measure_131 (by decide) rfl ?_
              refine z_iinc (k := 6) (v := (y : Int) + 1) (ls' := [(5, .int (iI ((y : Int) + 1))), (4, .int (iI 1)), (6, .int (iI 1)), (0, .ref 167), (1, .ref 15), (2, .ref r), (3, .int (iI shut))]) dX2_measure_133 rfl rfl (by decide) rfl ?_
              refine ab_goto (tgt := 11) dX2_measure_136 (by decide) ?_
              refine ab_sub (ls' := [(0, .ref 167), (1, .ref 15), (2, .ref r), (3, .int (iI shut)), (4, .int (iI 1)), (5, .int (iI ((y : Int) + 1)))]) (ks := [3, 4, 5, 6, 1, 0]) rfl ?_
              have hfy : frm h0 r shut y = true := by simp only [frm, decide_eq_true_eq]; refine ⟨?_, by rw [← ep]; omega, by omega⟩; rw [← eg]; by_cases q : zv h 18 y = 0; exact q; exact absurd ⟨by omega, by omega, q⟩ g23
              rcases ho with ho | ho
              · exact ih _ (by omega) (y + 1) 1 _ rfl (by omega) (hsm.trans (sm_zp (by decide))) (GR_ext hG hfy ho.2 (by omega) (by omega)) (Or.inl ⟨rfl, by omega, by rw [Nat.add_sub_cancel]; exact hfy⟩)
              · exact absurd ho.1 c59
          · skip
            refine ab_aload_n (k := 1) dX2_measure_62 rfl rfl ?_
            refine z_getI dX2_measure_63 fX2_18 rfl (Or.inl rfl) ?_
            refine z_is (y := (g : Int)) hgz ?_
            refine z_bipush dX2_measure_66 (by decide) ?_
            refine z_icmp_ge (tgt := 102) dX2_measure_68 (by decide) (by omega) (by decide) (fun c68 => ?_) (fun c68 => ?_)
            · skip
              refine ab_iload (k := 0) dX2_measure_102 rfl ?_
              refine z_if_eq (tgt := 129) dX2_measure_104 (by decide) (by decide) (fun c104 => absurd c104 (by decide)) (fun _ => ?_)
              have hgo : ¬ o = 0 → 0 < g := fun q => by rcases ho with ho | ho; have := hsb.2.1 ho.2; omega; exact absurd ho.1 q
              refine ab_aload_n (k := 1) dX2_measure_107 rfl rfl ?_
              refine z_getI dX2_measure_108 fX2_18 rfl (Or.inl rfl) ?_
              refine z_is (y := (g : Int)) hgz ?_
              refine z_if_le (tgt := 129) dX2_measure_111 (by decide) (by omega) (fun c111 => ?_) (fun c111 => ?_)
              · skip
                refine ab_iload (k := 0) dX2_measure_129 rfl ?_
                refine ab_istore (ls' := [(4, .int (iI 1)), (6, .int (iI 1)), (0, .ref 167), (1, .ref 15), (2, .ref r), (3, .int (iI shut)), (5, .int (iI (y : Int)))]) dX2_measure_131 (by decide) rfl ?_
                refine z_iinc (k := 6) (v := (y : Int) + 1) (ls' := [(5, .int (iI ((y : Int) + 1))), (4, .int (iI 1)), (6, .int (iI 1)), (0, .ref 167), (1, .ref 15), (2, .ref r), (3, .int (iI shut))]) dX2_measure_133 rfl rfl (by decide) rfl ?_
                refine ab_goto (tgt := 11) dX2_measure_136 (by decide) ?_
                refine ab_sub (ls' := [(0, .ref 167), (1, .ref 15), (2, .ref r), (3, .int (iI shut)), (4, .int (iI 1)), (5, .int (iI ((y : Int) + 1)))]) (ks := [3, 4, 5, 6, 1, 0]) rfl ?_
                exact absurd c68 (by omega)
              · skip
                obtain ⟨g1, hg1⟩ : ∃ z : Nat, 0 < g → g = z + 1 := ⟨g - 1, fun _ => by omega⟩
                refine ab_aload_n (k := 1) dX2_measure_114 rfl rfl ?_
                refine z_getP (b := 169) dX2_measure_115 fX2_15 rfl rfl rfl ?_
                refine ab_aload_n (k := 1) dX2_measure_118 rfl rfl ?_
                refine z_getI dX2_measure_119 fX2_18 rfl (Or.inl rfl) ?_
                refine z_is (y := (g : Int)) hgz ?_
                refine z_iconst dX2_measure_122 ?_
                refine z_isub dX2_measure_123 ?_
                refine z_is (y := (g1 : Int)) (by omega) ?_
                refine ab_dup2 dX2_measure_124 rfl rfl ?_
                refine z_iald dX2_measure_125 rfl (by omega) (by omega) ?_
                simp only [Int.toNat_natCast]
                have b2 := zv_R h 169 g1
                refine z_iconst dX2_measure_126 ?_
                refine z_iadd dX2_measure_127 ?_
                refine z_iast dX2_measure_128 rfl (by omega) (by omega) ?_
                simp only [Int.toNat_natCast]
                refine ab_iload (k := 0) dX2_measure_129 rfl ?_
                refine ab_istore (ls' := [(4, .int (iI 1)), (6, .int (iI 1)), (0, .ref 167), (1, .ref 15), (2, .ref r), (3, .int (iI shut)), (5, .int (iI (y : Int)))]) dX2_measure_131 (by decide) rfl ?_
                refine z_iinc (k := 6) (v := (y : Int) + 1) (ls' := [(5, .int (iI ((y : Int) + 1))), (4, .int (iI 1)), (6, .int (iI 1)), (0, .ref 167), (1, .ref 15), (2, .ref r), (3, .int (iI shut))]) dX2_measure_133 rfl rfl (by decide) rfl ?_
                refine ab_goto (tgt := 11) dX2_measure_136 (by decide) ?_
                refine ab_sub (ls' := [(0, .ref 167), (1, .ref 15), (2, .ref r), (3, .int (iI shut)), (4, .int (iI 1)), (5, .int (iI ((y : Int) + 1)))]) (ks := [3, 4, 5, 6, 1, 0]) rfl ?_
                exact absurd c68 (by omega)
            · skip
              refine ab_aload_n (k := 1) dX2_measure_71 rfl rfl ?_
              refine z_getP (b := 168) dX2_measure_72 fX2_9 rfl rfl rfl ?_
              refine ab_aload_n (k := 1) dX2_measure_75 rfl rfl ?_
              refine z_getI dX2_measure_76 fX2_18 rfl (Or.inl rfl) ?_
              refine z_is (y := (g : Int)) hgz ?_
              refine ab_iload (k := 6) dX2_measure_79 rfl ?_
              refine z_iast dX2_measure_81 rfl (by omega) (by omega) ?_
              simp only [Int.toNat_natCast]
              refine ab_aload_n (k := 1) dX2_measure_82 rfl rfl ?_
              refine z_getP (b := 169) dX2_measure_83 fX2_15 rfl rfl rfl ?_
              refine ab_aload_n (k := 1) dX2_measure_86 rfl rfl ?_
              refine z_getI dX2_measure_87 fX2_18 rfl (Or.inl rfl) ?_
              refine z_is (y := zv h 167 2) (zv_zp_a (by decide)) ?_
              refine z_is (y := (g : Int)) hgz ?_
              refine z_iconst dX2_measure_90 ?_
              refine z_iast dX2_measure_91 rfl (by omega) (by omega) ?_
              simp only [Int.toNat_natCast]
              refine ab_aload_n (k := 1) dX2_measure_92 rfl rfl ?_
              refine ab_dup dX2_measure_93 rfl ?_
              refine z_getI dX2_measure_94 fX2_18 rfl (Or.inl rfl) ?_
              refine z_is (y := zv h 167 2) ((zv_zp_a (by decide)).trans (zv_zp_a (by decide))) ?_
              refine z_is (y := (g : Int)) hgz ?_
              refine z_iconst dX2_measure_97 ?_
              refine z_iadd dX2_measure_98 ?_
              refine z_putI dX2_measure_99 fX2_18 rfl rfl ?_
              refine ab_iload (k := 0) dX2_measure_102 rfl ?_
              refine z_if_eq (tgt := 129) dX2_measure_104 (by decide) (by decide) (fun c104 => absurd c104 (by decide)) (fun _ => ?_)
              have hgo : ¬ o = 0 → 0 < g := fun q => by rcases ho with ho | ho; have := hsb.2.1 ho.2; omega; exact absurd ho.1 q
              refine ab_aload_n (k := 1) dX2_measure_107 rfl rfl ?_
              refine z_getI dX2_measure_108 fX2_18 rfl (Or.inl rfl) ?_
              refine z_is (y := (g : Int) + 1) (zv_zp_s (by omega)) ?_
              refine z_if_le (tgt := 129) dX2_measure_111 (by decide) (by omega) (fun c111 => ?_) (fun c111 => ?_)
              · skip
                refine ab_iload (k := 0) dX2_measure_129 rfl ?_
                refine ab_istore (ls' := [(4, .int (iI 1)), (6, .int (iI 1)), (0, .ref 167), (1, .ref 15), (2, .ref r), (3, .int (iI shut)), (5, .int (iI (y : Int)))]) dX2_measure_131 (by decide) rfl ?_
                refine z_iinc (k := 6) (v := (y : Int) + 1) (ls' := [(5, .int (iI ((y : Int) + 1))), (4, .int (iI 1)), (6, .int (iI 1)), (0, .ref 167), (1, .ref 15), (2, .ref r), (3, .int (iI shut))]) dX2_measure_133 rfl rfl (by decide) rfl ?_
                refine ab_goto (tgt := 11) dX2_measure_136 (by decide) ?_
                refine ab_sub (ls' := [(0, .ref 167), (1, .ref 15), (2, .ref r), (3, .int (iI shut)), (4, .int (iI 1)), (5, .int (iI ((y : Int) + 1)))]) (ks := [3, 4, 5, 6, 1, 0]) rfl ?_
                exact absurd c111 (by omega)
              · skip
                obtain ⟨g1, hg1⟩ : ∃ z : Nat, 0 < g → g = z + 1 := ⟨g - 1, fun _ => by omega⟩
                refine ab_aload_n (k := 1) dX2_measure_114 rfl rfl ?_
                refine z_getP (b := 169) dX2_measure_115 fX2_15 rfl rfl rfl ?_
                refine ab_aload_n (k := 1) dX2_measure_118 rfl rfl ?_
                refine z_getI dX2_measure_119 fX2_18 rfl (Or.inl rfl) ?_
                refine z_is (y := (g : Int) + 1) (zv_zp_s (by omega)) ?_
                refine z_iconst dX2_measure_122 ?_
                refine z_isub dX2_measure_123 ?_
                refine z_is (y := (g : Int)) (by omega) ?_
                refine ab_dup2 dX2_measure_124 rfl rfl ?_
                refine z_iald dX2_measure_125 rfl (by omega) (by omega) ?_
                simp only [Int.toNat_natCast]
                refine z_is (y := 0) ((zv_zp_a (by decide)).trans (zv_zp_s (by decide))) ?_
                refine z_iconst dX2_measure_126 ?_
                refine z_iadd dX2_measure_127 ?_
                refine z_iast dX2_measure_128 rfl (by omega) (by omega) ?_
                simp only [Int.toNat_natCast]
                refine ab_iload (k := 0) dX2_measure_129 rfl ?_
                refine ab_istore (ls' := [(4, .int (iI 1)), (6, .int (iI 1)), (0, .ref 167), (1, .ref 15), (2, .ref r), (3, .int (iI shut)), (5, .int (iI (y : Int)))]) dX2_measure_131 (by decide) rfl ?_
                refine z_iinc (k := 6) (v := (y : Int) + 1) (ls' := [(5, .int (iI ((y : Int) + 1))), (4, .int (iI 1)), (6, .int (iI 1)), (0, .ref 167), (1, .ref 15), (2, .ref r), (3, .int (iI shut))]) dX2_measure_133 rfl rfl (by decide) rfl ?_
                refine ab_goto (tgt := 11) dX2_measure_136 (by decide) ?_
                refine ab_sub (ls' := [(0, .ref 167), (1, .ref 15), (2, .ref r), (3, .int (iI shut)), (4, .int (iI 1)), (5, .int (iI ((y : Int) + 1)))]) (ks := [3, 4, 5, 6, 1, 0]) rfl ?_
                have hfy : frm h0 r shut y = true := by simp only [frm, decide_eq_true_eq]; refine ⟨?_, by rw [← ep]; omega, by omega⟩; rw [← eg]; by_cases q : zv h 18 y = 0; exact q; exact absurd ⟨by omega, by omega, q⟩ g23
                rcases ho with ho | ho
                · exact absurd ho.1 (by omega)
                · exact ih _ (by omega) (y + 1) 1 _ rfl (by omega) ((((hsm.trans (sm_zp (by decide))).trans (sm_zp (by decide))).trans (sm_zp (by decide))).trans (sm_zp (by decide))) (GR_new hG hfy ho.2 hgd (by omega)) (Or.inl ⟨rfl, by omega, by rw [Nat.add_sub_cancel]; exact hfy⟩)
theorem c_measure {d : Nat} {h : ab_H} {Q : ab_Q} {r n : Nat} {shut : Int} (hr9 : r = 36 ∨ r = 39) (hn : zv h 15 0 = n) (hn2 : n ≤ 20) (hs : inR shut) (K : ∀ h', sm [167, 168, 169] h h' → GR h' (scan (frm h r shut) n) → Q none h') : ab_X (d + 2) mX2_measure 0 (lv_args 0 [.ref 167, .ref 15, .ref r, .int (iI shut)]) [] h Q := by
  show ab_X (d + 2) mX2_measure 0 [(0, .ref 167), (1, .ref 15), (2, .ref r), (3, .int (iI shut))] [] h Q
  refine ab_aload_n (k := 0) dX2_measure_0 rfl rfl ?_
  refine z_iconst dX2_measure_1 ?_
  refine z_putI dX2_measure_2 fX2_18 rfl rfl ?_
  refine z_iconst dX2_measure_5 ?_
  refine ab_istore (ls' := [(4, .int (iI 0)), (0, .ref 167), (1, .ref 15), (2, .ref r), (3, .int (iI shut))]) dX2_measure_6 (by decide) rfl ?_
  refine z_iconst dX2_measure_8 ?_
  refine ab_istore (ls' := [(5, .int (iI 0)), (4, .int (iI 0)), (0, .ref 167), (1, .ref 15), (2, .ref r), (3, .int (iI shut))]) dX2_measure_9 (by decide) rfl ?_
  refine ab_sub (ls' := [(0, .ref 167), (1, .ref 15), (2, .ref r), (3, .int (iI shut)), (4, .int (iI 0)), (5, .int (iI 0))]) (ks := [2, 3, 4, 5, 1, 0]) rfl ?_
  exact lp_measure hr9 hn hn2 hs (fun h1 a b => K h1 (by exact a) (by exact b)) _ 0 0 _ rfl (by omega) (sm_zp (by decide)) ⟨zv_zp_s (by decide), fun i hi => absurd hi (by simp [scan])⟩ (Or.inr ⟨rfl, by omega⟩)
