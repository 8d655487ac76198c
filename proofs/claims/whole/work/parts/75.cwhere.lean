/-! WHERE, PARK of the class -/
def dsw (k hd : Int) (c : List (Int × Int)) (p l a b n : Int) : Int := (iI (dsl k hd c p l a b n)).toInt
def fC (fr : Nat → Bool) (k hd : Int) (c : List (Int × Int)) (L : Nat) (n : Int) (p : Nat) : Int := dsw k hd c (p : Int) (L : Int) (runl fr p : Int) (rr fr 40 (p + L) : Int) n
theorem rOK_D {h h' : ab_H} {hd rc : Int} {c : List (Int × Int)} (r : rOK h hd rc c) (D : DW h h') : rOK h' hd rc c := by
  obtain ⟨r1, r2, r3, r4, r5, r6, r7⟩ := r
  refine ⟨(D 0 6 (by omega)).trans r1, (D 0 5 (by omega)).trans r2, r3, r4, r5, r6, fun q => ?_⟩
  obtain ⟨a, b⟩ := r7 q
  exact ⟨(D _ 3 (by omega)).trans a, fun i hi => ⟨(D _ i (by omega)).trans (b i hi).1, (D _ i (by omega)).trans (b i hi).2⟩⟩
theorem GR_D {h h' : ab_H} {S : Nat × (Nat → Nat) × (Nat → Nat)} (g : GR h S) (D : DW h h') : GR h' S := ⟨(D 167 2 (by omega)).trans g.1, fun i hi => ⟨(D 168 i (by omega)).trans (g.2 i hi).1, (D 169 i (by omega)).trans (g.2 i hi).2⟩⟩
theorem rOK_m {h h' : ab_H} {hd rc : Int} {c : List (Int × Int)} (r : rOK h hd rc c) (s : sm [167, 168, 169] h h') : rOK h' hd rc c := by
  obtain ⟨r1, r2, r3, r4, r5, r6, r7⟩ := r
  exact ⟨(s.1 0 6 (by decide)).trans r1, (s.1 0 5 (by decide)).trans r2, r3, r4, r5, r6, fun q => CCr_sm (r7 q) s (by simp only [List.mem_cons, List.not_mem_nil, or_false]; omega) (by simp only [List.mem_cons, List.not_mem_nil, or_false]; omega) (by simp only [List.mem_cons, List.not_mem_nil, or_false]; omega)⟩
def cbe (f : Nat → Int) (fr : Nat → Bool) (n L g a : Nat) : Int × Int := cbf f (fl (scan fr n).2.1 (scan fr n).2.2 L g ++ (List.range a).map (fun i => (scan fr n).2.1 g + i))
theorem cbe_0 {f : Nat → Int} {fr : Nat → Bool} {n L g : Nat} : cbe f fr n L g 0 = cbf f (fl (scan fr n).2.1 (scan fr n).2.2 L g) := by unfold cbe; rw [List.range_zero, List.map_nil, List.append_nil]
theorem cbe_s {f : Nat → Int} {fr : Nat → Bool} {n L g a : Nat} : cbe f fr n L g (a + 1) = bstep f (cbe f fr n L g a) ((scan fr n).2.1 g + a) := by
  unfold cbe; rw [List.range_succ, List.map_append, ← List.append_assoc]; exact cbf_s _ _ _
theorem cbe_e {f : Nat → Int} {fr : Nat → Bool} {n L g : Nat} : cbe f fr n L g ((scan fr n).2.2 g + 1 - L) = cbf f (fl (scan fr n).2.1 (scan fr n).2.2 L (g + 1)) := rfl
theorem bst_b {f : Nat → Int} (hf : ∀ p, inR (f p)) : ∀ (l : List Nat) (s : Int × Int), (∀ p ∈ l, p ≤ 1000) → (-1 ≤ s.1 ∧ s.1 ≤ 1000) ∧ inR s.2 → (-1 ≤ (l.foldl (bstep f) s).1 ∧ (l.foldl (bstep f) s).1 ≤ 1000) ∧ inR (l.foldl (bstep f) s).2
  | [], s, _, h => h
  | p :: l, s, hl, h => by
    rw [List.foldl_cons]
    refine bst_b hf l _ (fun x hx => hl x (List.mem_cons_of_mem _ hx)) ?_
    have := hl p List.mem_cons_self
    unfold bstep
    split
    · exact ⟨by dsimp only; omega, hf p⟩
    · exact h
theorem fl_b {s k : Nat → Nat} {L : Nat} : ∀ g, (∀ i, i < g → s i + k i ≤ 20) → ∀ p ∈ fl s k L g, p ≤ 1000
  | 0, _, p, hp => absurd hp List.not_mem_nil
  | g + 1, h, p, hp => by
    rw [fl_s] at hp
    rcases List.mem_append.mp hp with q | q
    · exact fl_b g (fun i hi => h i (by omega)) p q
    · obtain ⟨i, hi, e⟩ := List.mem_map.mp q
      have := List.mem_range.mp hi
      have := h g (by omega)
      omega
theorem lp_choice2 {d : Nat} {Q : ab_Q} {h0 : ab_H} {g s z : Nat} {fr : Nat → Bool} {n L : Nat} {k hd rc nc : Int} {c : List (Int × Int)}  (hn : n ≤ 20) (hf : ∀ y, n ≤ y → ¬ fr y = true) (hL : 1 ≤ L ∧ L ≤ 9) (hk : 1 ≤ k ∧ k ≤ 4) (hG0 : GR h0 (scan fr n)) (r0 : rOK h0 hd rc c) (hc0 : zv h0 36 2 = nc) (hg : g < (scan fr n).1) (hs : s = (scan fr n).2.1 g) (hz : z = (scan fr n).2.2 g) (K : ∀ h', DW h0 h' → ab_X (d + 6) mX11_choice 141 [(0, .ref 0), (2, .int (iI k)), (3, .int (iI (L : Int))), (4, .int (iI (cbe (fC fr k hd c L nc) fr n L g (z + 1 - L)).1)), (5, .int (iI (cbe (fC fr k hd c L nc) fr n L g (z + 1 - L)).2)), (6, .int (iI (g : Int)))] [] h' Q) : ∀ (nn : Nat) (a : Nat) (h : ab_H), z + 1 - L - a = nn → (a ≤ z + 1 - L) → (DW h0 h) → ab_X (d + 6) mX11_choice 84 [(0, .ref 0), (2, .int (iI k)), (3, .int (iI (L : Int))), (4, .int (iI ((cbe (fC fr k hd c L nc) fr n L g a).1))), (5, .int (iI ((cbe (fC fr k hd c L nc) fr n L g a).2))), (6, .int (iI (g : Int))), (7, .int (iI (s : Int))), (8, .int (iI ((z : Int) - (L : Int)))), (9, .int (iI (a : Int)))] [] h Q := by
  intro nn
  induction nn using Nat.strongRecOn with
  | ind nn ih =>
  intro a h hnn ha hD
  have rH := rOK_D r0 hD
  have hcH : zv h 36 2 = nc := (hD 36 2 (by omega)).trans hc0
  have hsb := (scan_b fr n).2.2 g hg
  have hfb : ∀ p, inR (fC fr k hd c L nc p) := fun p => inR_of _
  have hbb : (-1 ≤ (cbe (fC fr k hd c L nc) fr n L g a).1 ∧ (cbe (fC fr k hd c L nc) fr n L g a).1 ≤ 1000) ∧ inR (cbe (fC fr k hd c L nc) fr n L g a).2 := bst_b hfb _ _ (fun p hp => by
    rcases List.mem_append.mp hp with q | q
    · exact fl_b g (fun i hi => by have := (scan_b fr n).2.2 i (by omega); omega) p q
    · obtain ⟨i, hi, e⟩ := List.mem_map.mp q
      have := List.mem_range.mp hi
      omega) ⟨by decide, by decide⟩
  have fCe : (a : Int) ≤ (z : Int) - (L : Int) → (iI (dsl k hd c ((s : Int) + (a : Int)) (L : Int) (a : Int) (((z : Int) - (L : Int)) - (a : Int)) nc)).toInt = fC fr k hd c L nc (s + a) := fun q => by
    have e := gap_run hn hf hg (a := a) (L := L) (by omega)
    rw [← hs, ← hz] at e
    unfold fC dsw
    rw [e.1, e.2, show (((z - L - a : Nat)) : Int) = ((z : Int) - (L : Int)) - (a : Int) by omega, show ((s + a : Nat) : Int) = (s : Int) + (a : Int) by omega]
  refine ab_iload (k := 8) dX11_choice_84 rfl ?_
  refine ab_iload (k := 7) dX11_choice_86 rfl ?_
  refine z_icmp_gt (tgt := 141) dX11_choice_88 (by decide) (by omega) (by omega) (fun c88 => ?_) (fun c88 => ?_)
  · skip
    refine ab_sub (ls' := [(0, .ref 0), (2, .int (iI k)), (3, .int (iI (L : Int))), (4, .int (iI ((cbe (fC fr k hd c L nc) fr n L g a).1))), (5, .int (iI ((cbe (fC fr k hd c L nc) fr n L g a).2))), (6, .int (iI (g : Int)))]) (ks := [0, 1, 2, 3, 4, 5]) rfl ?_
    have e : a = z + 1 - L := by omega
    subst e
    exact K h hD
  · skip
    refine ab_aload_n (k := 0) dX11_choice_91 rfl rfl ?_
    refine ab_iload_n (k := 1) dX11_choice_92 rfl rfl ?_
    refine ab_iload (k := 6) dX11_choice_93 rfl ?_
    refine ab_iload (k := 8) dX11_choice_95 rfl ?_
    refine z_iadd dX11_choice_97 ?_
    refine ab_iload_n (k := 2) dX11_choice_98 rfl rfl ?_
    refine ab_iload (k := 8) dX11_choice_99 rfl ?_
    refine ab_iload (k := 7) dX11_choice_101 rfl ?_
    refine ab_iload (k := 8) dX11_choice_103 rfl ?_
    refine z_isub dX11_choice_105 ?_
    refine ab_callV (As := [.int (iI k), .int (iI ((s : Int) + (a : Int))), .int (iI (L : Int)), .int (iI (a : Int)), .int (iI (((z : Int) - (L : Int)) - (a : Int)))]) (rest := []) dX11_choice_106 lX11_348 rfl (Nat.le_of_ble_eq_true rfl) (Nat.le_of_ble_eq_true rfl) rfl ?_
    refine c_dislike (n := nc) hk (by omega) (by omega) (by omega) (by omega) (by omega) rH hcH (fun g106 D106 => ?_)
    rw [← iI_of (iI (dsl k hd c ((s : Int) + (a : Int)) (L : Int) (a : Int) (((z : Int) - (L : Int)) - (a : Int)) nc))]
    rw [show (iI (dsl k hd c ((s : Int) + (a : Int)) (L : Int) (a : Int) (((z : Int) - (L : Int)) - (a : Int)) nc)).toInt = fC fr k hd c L nc (s + a) from fCe (by omega)]
    have hfR := hfb (s + a)
    show ab_X (d + 6) mX11_choice 109 [(0, .ref 0), (2, .int (iI k)), (3, .int (iI (L : Int))), (4, .int (iI ((cbe (fC fr k hd c L nc) fr n L g a).1))), (5, .int (iI ((cbe (fC fr k hd c L nc) fr n L g a).2))), (6, .int (iI (g : Int))), (7, .int (iI (s : Int))), (8, .int (iI ((z : Int) - (L : Int)))), (9, .int (iI (a : Int)))] [.int (iI (fC fr k hd c L nc (s + a)))] g106 _
    refine ab_istore (ls' := [(10, .int (iI (fC fr k hd c L nc (s + a)))), (0, .ref 0), (2, .int (iI k)), (3, .int (iI (L : Int))), (4, .int (iI ((cbe (fC fr k hd c L nc) fr n L g a).1))), (5, .int (iI ((cbe (fC fr k hd c L nc) fr n L g a).2))), (6, .int (iI (g : Int))), (7, .int (iI (s : Int))), (8, .int (iI ((z : Int) - (L : Int)))), (9, .int (iI (a : Int)))]) dX11_choice_109 (by decide) rfl ?_
    refine ab_iload (k := 4) dX11_choice_111 rfl ?_
    refine z_iconst dX11_choice_113 ?_
    refine z_icmp_eq (tgt := 124) dX11_choice_114 (by decide) (by omega) (by decide) (fun c114 => ?_) (fun c114 => ?_)
    · skip
      refine ab_iload (k := 7) dX11_choice_124 rfl ?_
      refine ab_iload (k := 9) dX11_choice_126 rfl ?_
      refine z_iadd dX11_choice_128 ?_
      refine ab_istore (ls' := [(4, .int (iI ((s : Int) + (a : Int)))), (10, .int (iI (fC fr k hd c L nc (s + a)))), (0, .ref 0), (2, .int (iI k)), (3, .int (iI (L : Int))), (5, .int (iI ((cbe (fC fr k hd c L nc) fr n L g a).2))), (6, .int (iI (g : Int))), (7, .int (iI (s : Int))), (8, .int (iI ((z : Int) - (L : Int)))), (9, .int (iI (a : Int)))]) dX11_choice_129 (by decide) rfl ?_
      refine ab_iload (k := 1) dX11_choice_131 rfl ?_
      refine ab_istore (ls' := [(5, .int (iI (fC fr k hd c L nc (s + a)))), (4, .int (iI ((s : Int) + (a : Int)))), (10, .int (iI (fC fr k hd c L nc (s + a)))), (0, .ref 0), (2, .int (iI k)), (3, .int (iI (L : Int))), (6, .int (iI (g : Int))), (7, .int (iI (s : Int))), (8, .int (iI ((z : Int) - (L : Int)))), (9, .int (iI (a : Int)))]) dX11_choice_133 (by decide) rfl ?_
      refine z_iinc (k := 9) (v := (a : Int) + 1) (ls' := [(9, .int (iI ((a : Int) + 1))), (5, .int (iI (fC fr k hd c L nc (s + a)))), (4, .int (iI ((s : Int) + (a : Int)))), (10, .int (iI (fC fr k hd c L nc (s + a)))), (0, .ref 0), (2, .int (iI k)), (3, .int (iI (L : Int))), (6, .int (iI (g : Int))), (7, .int (iI (s : Int))), (8, .int (iI ((z : Int) - (L : Int))))]) dX11_choice_135 rfl rfl (by decide) rfl ?_
      refine ab_goto (tgt := 84) dX11_choice_138 (by decide) ?_
      refine ab_sub (ls' := [(0, .ref 0), (2, .int (iI k)), (3, .int (iI (L : Int))), (4, .int (iI ((s : Int) + (a : Int)))), (5, .int (iI (fC fr k hd c L nc (s + a)))), (6, .int (iI (g : Int))), (7, .int (iI (s : Int))), (8, .int (iI ((z : Int) - (L : Int)))), (9, .int (iI ((a : Int) + 1)))]) (ks := [4, 5, 6, 2, 1, 7, 8, 9, 0]) rfl ?_
      first
      | (have e := cbe_s (f := fC fr k hd c L nc) (fr := fr) (n := n) (L := L) (g := g) (a := a)
         rw [← hs] at e
         unfold bstep at e
         rw [if_pos (by omega)] at e
         have ih2 := ih _ (by omega) (a + 1) g106 rfl (by omega) (hD.tr D106)
         rw [e] at ih2
         exact ih2)
      | (have e := cbe_s (f := fC fr k hd c L nc) (fr := fr) (n := n) (L := L) (g := g) (a := a)
         rw [← hs] at e
         unfold bstep at e
         rw [if_neg (by omega)] at e
         have ih2 := ih _ (by omega) (a + 1) g106 rfl (by omega) (hD.tr D106)
         rw [e] at ih2
         exact ih2)
    · skip
      refine ab_iload (k := 0) dX11_choice_117 rfl ?_
      refine ab_iload (k := 5) dX11_choice_119 rfl ?_
      refine z_icmp_ge (tgt := 135) dX11_choice_121 (by decide) (by omega) (by omega) (fun c121 => ?_) (fun c121 => ?_)
      · skip
        refine z_iinc (k := 9) (v := (a : Int) + 1) (ls' := [(9, .int (iI ((a : Int) + 1))), (10, .int (iI (fC fr k hd c L nc (s + a)))), (0, .ref 0), (2, .int (iI k)), (3, .int (iI (L : Int))), (4, .int (iI ((cbe (fC fr k hd c L nc) fr n L g a).1))), (5, .int (iI ((cbe (fC fr k hd c L nc) fr n L g a).2))), (6, .int (iI (g : Int))), (7, .int (iI (s : Int))), (8, .int (iI ((z : Int) - (L : Int))))]) dX11_choice_135 rfl rfl (by decide) rfl ?_
        refine ab_goto (tgt := 84) dX11_choice_138 (by decide) ?_
        refine ab_sub (ls' := [(0, .ref 0), (2, .int (iI k)), (3, .int (iI (L : Int))), (4, .int (iI ((cbe (fC fr k hd c L nc) fr n L g a).1))), (5, .int (iI ((cbe (fC fr k hd c L nc) fr n L g a).2))), (6, .int (iI (g : Int))), (7, .int (iI (s : Int))), (8, .int (iI ((z : Int) - (L : Int)))), (9, .int (iI ((a : Int) + 1)))]) (ks := [2, 3, 4, 5, 6, 7, 8, 9, 0]) rfl ?_
        first
        | (have e := cbe_s (f := fC fr k hd c L nc) (fr := fr) (n := n) (L := L) (g := g) (a := a)
           rw [← hs] at e
           unfold bstep at e
           rw [if_pos (by omega)] at e
           have ih2 := ih _ (by omega) (a + 1) g106 rfl (by omega) (hD.tr D106)
           rw [e] at ih2
           exact ih2)
        | (have e := cbe_s (f := fC fr k hd c L nc) (fr := fr) (n := n) (L := L) (g := g) (a := a)
           rw [← hs] at e
           unfold bstep at e
           rw [if_neg (by omega)] at e
           have ih2 := ih _ (by omega) (a + 1) g106 rfl (by omega) (hD.tr D106)
           rw [e] at ih2
           exact ih2)
      · skip
        refine ab_iload (k := 7) dX11_choice_124 rfl ?_
        refine ab_iload (k := 9) dX11_choice_126 rfl ?_
        refine z_iadd dX11_choice_128 ?_
        refine ab_istore (ls' := [(4, .int (iI ((s : Int) + (a : Int)))), (10, .int (iI (fC fr k hd c L nc (s + a)))), (0, .ref 0), (2, .int (iI k)), (3, .int (iI (L : Int))), (5, .int (iI ((cbe (fC fr k hd c L nc) fr n L g a).2))), (6, .int (iI (g : Int))), (7, .int (iI (s : Int))), (8, .int (iI ((z : Int) - (L : Int)))), (9, .int (iI (a : Int)))]) dX11_choice_129 (by decide) rfl ?_
        refine ab_iload (k := 1) dX11_choice_131 rfl ?_
        refine ab_istore (ls' := [(5, .int (iI (fC fr k hd c L nc (s + a)))), (4, .int (iI ((s : Int) + (a : Int)))), (10, .int (iI (fC fr k hd c L nc (s + a)))), (0, .ref 0), (2, .int (iI k)), (3, .int (iI (L : Int))), (6, .int (iI (g : Int))), (7, .int (iI (s : Int))), (8, .int (iI ((z : Int) - (L : Int)))), (9, .int (iI (a : Int)))]) dX11_choice_133 (by decide) rfl ?_
        refine z_iinc (k := 9) (v := (a : Int) + 1) (ls' := [(9, .int (iI ((a : Int) + 1))), (5, .int (iI (fC fr k hd c L nc (s + a)))), (4, .int (iI ((s : Int) + (a : Int)))), (10, .int (iI (fC fr k hd c L nc (s + a)))), (0, .ref 0), (2, .int (iI k)), (3, .int (iI (L : Int))), (6, .int (iI (g : Int))), (7, .int (iI (s : Int))), (8, .int (iI ((z : Int) - (L : Int))))]) dX11_choice_135 rfl rfl (by decide) rfl ?_
        refine ab_goto (tgt := 84) dX11_choice_138 (by decide) ?_
        refine ab_sub (ls' := [(0, .ref 0), (2, .int (iI k)), (3, .int (iI (L : Int))), (4, .int (iI ((s : Int) + (a : Int)))), (5, .int (iI (fC fr k hd c L nc (s + a)))), (6, .int (iI (g : Int))), (7, .int (iI (s : Int))), (8, .int (iI ((z : Int) - (L : Int)))), (9, .int (iI ((a : Int) + 1)))]) (ks := [4, 5, 6, 2, 1, 7, 8, 9, 0]) rfl ?_
        first
        | (have e := cbe_s (f := fC fr k hd c L nc) (fr := fr) (n := n) (L := L) (g := g) (a := a)
           rw [← hs] at e
           unfold bstep at e
           rw [if_pos (by omega)] at e
           have ih2 := ih _ (by omega) (a + 1) g106 rfl (by omega) (hD.tr D106)
           rw [e] at ih2
           exact ih2)
        | (have e := cbe_s (f := fC fr k hd c L nc) (fr := fr) (n := n) (L := L) (g := g) (a := a)
           rw [← hs] at e
           unfold bstep at e
           rw [if_neg (by omega)] at e
           have ih2 := ih _ (by omega) (a + 1) g106 rfl (by omega) (hD.tr D106)
           rw [e] at ih2
           exact ih2)
theorem lp_choice1 {d : Nat} {Q : ab_Q} {h0 : ab_H} {fr : Nat → Bool} {n L : Nat} {k hd rc nc : Int} {c : List (Int × Int)}  (hn : n ≤ 20) (hf : ∀ y, n ≤ y → ¬ fr y = true) (hL : 1 ≤ L ∧ L ≤ 9) (hk : 1 ≤ k ∧ k ≤ 4) (hG0 : GR h0 (scan fr n)) (r0 : rOK h0 hd rc c) (hc0 : zv h0 36 2 = nc) (K : ∀ h', DW h0 h' → Q (some (.int (iI (cbf (fC fr k hd c L nc) (pls fr L n)).1))) h') : ∀ (nn : Nat) (g : Nat) (h : ab_H), (scan fr n).1 - g = nn → (g ≤ (scan fr n).1) → (DW h0 h) → ab_X (d + 6) mX11_choice 45 [(0, .ref 0), (2, .int (iI k)), (3, .int (iI (L : Int))), (4, .int (iI ((cbf (fC fr k hd c L nc) (fl (scan fr n).2.1 (scan fr n).2.2 L g)).1))), (5, .int (iI ((cbf (fC fr k hd c L nc) (fl (scan fr n).2.1 (scan fr n).2.2 L g)).2))), (6, .int (iI (g : Int)))] [] h Q := by
  intro nn
  induction nn using Nat.strongRecOn with
  | ind nn ih =>
  intro g h hnn hgi hD
  have hGH := GR_D hG0 hD
  have gok := GR_ok hn hGH
  have hcnt := (scan_b fr n).1
  refine ab_iload (k := 5) dX11_choice_45 rfl ?_
  refine ab_aload_n (k := 0) dX11_choice_47 rfl rfl ?_
  refine z_getP (b := 167) dX11_choice_48 fX11_73 rfl rfl rfl ?_
  refine z_getI dX11_choice_51 fX11_334 rfl (Or.inl rfl) ?_
  refine z_is (y := (((scan fr n).1 : Nat) : Int)) hGH.1 ?_
  refine z_icmp_ge (tgt := 147) dX11_choice_54 (by decide) (by omega) (by omega) (fun c54 => ?_) (fun c54 => ?_)
  · skip
    refine ab_iload (k := 3) dX11_choice_147 rfl ?_
    refine z_iret dX11_choice_149 rfl ?_
    have e : g = (scan fr n).1 := by omega
    subst e
    rw [fl_scan fr hL.1 n]
    exact K h hD
  · skip
    have hgl : g < (scan fr n).1 := by omega
    obtain ⟨s, hs⟩ : ∃ s, s = (scan fr n).2.1 g := ⟨_, rfl⟩
    obtain ⟨z, hz⟩ : ∃ z, z = (scan fr n).2.2 g := ⟨_, rfl⟩
    have hsb := (scan_b fr n).2.2 g hgl
    refine ab_aload_n (k := 0) dX11_choice_57 rfl rfl ?_
    refine z_getP (b := 167) dX11_choice_58 fX11_73 rfl rfl rfl ?_
    refine ab_iload (k := 5) dX11_choice_61 rfl ?_
    refine ab_callV (As := [.int (iI (g : Int))]) (rest := []) dX11_choice_63 lX11_342 rfl (Nat.le_of_ble_eq_true rfl) (Nat.le_of_ble_eq_true rfl) rfl ?_
    refine c_startOf (by omega) gok (fun q63 => ?_) (fun q63 => absurd ⟨by omega, by omega⟩ q63)
    simp only [Int.toNat_natCast]
    rw [(hGH.2 g hgl).1, ← hs]
    show ab_X (d + 6) mX11_choice 66 [(0, .ref 0), (2, .int (iI k)), (3, .int (iI (L : Int))), (4, .int (iI ((cbf (fC fr k hd c L nc) (fl (scan fr n).2.1 (scan fr n).2.2 L g)).1))), (5, .int (iI ((cbf (fC fr k hd c L nc) (fl (scan fr n).2.1 (scan fr n).2.2 L g)).2))), (6, .int (iI (g : Int)))] [.int (iI (s : Int))] h _
    refine ab_istore (ls' := [(7, .int (iI (s : Int))), (0, .ref 0), (2, .int (iI k)), (3, .int (iI (L : Int))), (4, .int (iI ((cbf (fC fr k hd c L nc) (fl (scan fr n).2.1 (scan fr n).2.2 L g)).1))), (5, .int (iI ((cbf (fC fr k hd c L nc) (fl (scan fr n).2.1 (scan fr n).2.2 L g)).2))), (6, .int (iI (g : Int)))]) dX11_choice_66 (by decide) rfl ?_
    refine ab_aload_n (k := 1) dX11_choice_68 rfl rfl ?_
    refine z_getP (b := 167) dX11_choice_69 fX11_73 rfl rfl rfl ?_
    refine ab_iload (k := 6) dX11_choice_72 rfl ?_
    refine ab_callV (As := [.int (iI (g : Int))]) (rest := []) dX11_choice_74 lX11_345 rfl (Nat.le_of_ble_eq_true rfl) (Nat.le_of_ble_eq_true rfl) rfl ?_
    refine c_sizeOf (by omega) gok (fun q74 => ?_) (fun q74 => absurd ⟨by omega, by omega⟩ q74)
    simp only [Int.toNat_natCast]
    rw [(hGH.2 g hgl).2, ← hz]
    show ab_X (d + 6) mX11_choice 77 [(7, .int (iI (s : Int))), (0, .ref 0), (2, .int (iI k)), (3, .int (iI (L : Int))), (4, .int (iI ((cbf (fC fr k hd c L nc) (fl (scan fr n).2.1 (scan fr n).2.2 L g)).1))), (5, .int (iI ((cbf (fC fr k hd c L nc) (fl (scan fr n).2.1 (scan fr n).2.2 L g)).2))), (6, .int (iI (g : Int)))] [.int (iI (z : Int))] h _
    refine ab_iload_n (k := 3) dX11_choice_77 rfl rfl ?_
    refine z_isub dX11_choice_78 ?_
    refine ab_istore (ls' := [(8, .int (iI ((z : Int) - (L : Int)))), (7, .int (iI (s : Int))), (0, .ref 0), (2, .int (iI k)), (3, .int (iI (L : Int))), (4, .int (iI ((cbf (fC fr k hd c L nc) (fl (scan fr n).2.1 (scan fr n).2.2 L g)).1))), (5, .int (iI ((cbf (fC fr k hd c L nc) (fl (scan fr n).2.1 (scan fr n).2.2 L g)).2))), (6, .int (iI (g : Int)))]) dX11_choice_79 (by decide) rfl ?_
    refine z_iconst dX11_choice_81 ?_
    refine ab_istore (ls' := [(9, .int (iI 0)), (8, .int (iI ((z : Int) - (L : Int)))), (7, .int (iI (s : Int))), (0, .ref 0), (2, .int (iI k)), (3, .int (iI (L : Int))), (4, .int (iI ((cbf (fC fr k hd c L nc) (fl (scan fr n).2.1 (scan fr n).2.2 L g)).1))), (5, .int (iI ((cbf (fC fr k hd c L nc) (fl (scan fr n).2.1 (scan fr n).2.2 L g)).2))), (6, .int (iI (g : Int)))]) dX11_choice_82 (by decide) rfl ?_
    refine ab_sub (ls' := [(0, .ref 0), (2, .int (iI k)), (3, .int (iI (L : Int))), (4, .int (iI ((cbf (fC fr k hd c L nc) (fl (scan fr n).2.1 (scan fr n).2.2 L g)).1))), (5, .int (iI ((cbf (fC fr k hd c L nc) (fl (scan fr n).2.1 (scan fr n).2.2 L g)).2))), (6, .int (iI (g : Int))), (7, .int (iI (s : Int))), (8, .int (iI ((z : Int) - (L : Int)))), (9, .int (iI 0))]) (ks := [3, 4, 5, 6, 7, 8, 2, 1, 0]) rfl ?_
    rw [← cbe_0]
    refine lp_choice2 hn hf hL hk (GR_D hG0 hD) (rOK_D r0 hD) ((hD 36 2 (by omega)).trans hc0) hgl hs hz (fun h' D' => ?_) _ 0 h rfl (by omega) DW.rf
    rw [hz, cbe_e]
    refine z_iinc (k := 5) (v := (g : Int) + 1) (ls' := [(6, .int (iI ((g : Int) + 1))), (0, .ref 0), (2, .int (iI k)), (3, .int (iI (L : Int))), (4, .int (iI ((cbf (fC fr k hd c L nc) (fl (scan fr n).2.1 (scan fr n).2.2 L (g + 1))).1))), (5, .int (iI ((cbf (fC fr k hd c L nc) (fl (scan fr n).2.1 (scan fr n).2.2 L (g + 1))).2)))]) dX11_choice_141 rfl rfl (by decide) rfl ?_
    refine ab_goto (tgt := 45) dX11_choice_144 (by decide) ?_
    refine ab_sub (ls' := [(0, .ref 0), (2, .int (iI k)), (3, .int (iI (L : Int))), (4, .int (iI ((cbf (fC fr k hd c L nc) (fl (scan fr n).2.1 (scan fr n).2.2 L (g + 1))).1))), (5, .int (iI ((cbf (fC fr k hd c L nc) (fl (scan fr n).2.1 (scan fr n).2.2 L (g + 1))).2))), (6, .int (iI ((g : Int) + 1)))]) (ks := [1, 2, 3, 4, 5, 0]) rfl ?_
    exact ih _ (by omega) (g + 1) h' rfl (by omega) (hD.tr D')
