/-! CHOICE, WHERE, PARK of the model -/
def mil (v : Int) : Prop := -1000000 ≤ v ∧ v ≤ 1000000
theorem mst_b {g : Nat → Int} : ∀ (l : List Nat) (s : Int × Int), (∀ p ∈ l, p ≤ 1000 ∧ mil (g p)) → (-1 ≤ s.1 ∧ s.1 ≤ 1000) ∧ mil s.2 → (-1 ≤ (l.foldl (mstep g) s).1 ∧ (l.foldl (mstep g) s).1 ≤ 1000) ∧ mil (l.foldl (mstep g) s).2
  | [], s, _, h => h
  | p :: l, s, hl, h => by
    rw [List.foldl_cons]
    refine mst_b l _ (fun x hx => hl x (List.mem_cons_of_mem _ hx)) ?_
    have := hl p List.mem_cons_self
    unfold mstep
    split
    · exact ⟨by dsimp only; omega, this.2⟩
    · exact h
theorem mfr_D {h h' : ab_H} {n : Nat} (D : DM h h') : mfr h' n = mfr h n := by
  funext y; unfold mfr; rw [D.1 211 y (by decide) (by decide)]
theorem cB_D {h h' : ab_H} (D : DM h h') : zv h' 211 = zv h 211 := funext (fun y => D.1 211 y (by decide) (by decide))
def rowW (h : ab_H) (n : Nat) : Prop := (∀ (p y : Nat), p < n → y < n → zv h 211 y = p → zv h 211 p = p) ∧ ∀ p, p < n → zv h 211 p = -1 → zv h 212 p = -1
theorem mbf_in {g : Nat → Int} : ∀ (l : List Nat) (s : Int × Int), (l.foldl (mstep g) s).1 = s.1 ∨ ∃ p ∈ l, (l.foldl (mstep g) s).1 = (p : Int)
  | [], _ => Or.inl rfl
  | p :: l, s => by
    rw [List.foldl_cons]
    rcases mbf_in l (mstep g s p) with q | ⟨x, hx, q⟩
    · unfold mstep at q
      by_cases c : s.1 = -1 ∨ g p > s.2
      · rw [if_pos c] at q; exact Or.inr ⟨p, List.mem_cons_self, by unfold mstep; rw [if_pos c]; exact q⟩
      · rw [if_neg c] at q; exact Or.inl (by unfold mstep; rw [if_neg c]; exact q)
    · exact Or.inr ⟨x, List.mem_cons_of_mem _ hx, q⟩
theorem lp_mchoice {d : Nat} {Q : ab_Q} {h0 : ab_H} {n s L : Nat} {k hd nc : Int} {c : List (Int × Int)}  (hn : zv h0 200 32 = n) (hn2 : n ≤ 20) (hs : s < 4) (hL : zv h0 207 (2 * s) = L) (hL2 : 1 ≤ L ∧ L ≤ 9) (hk : 1 ≤ k ∧ k ≤ 4) (hhd : zv h0 200 33 = hd) (hhd2 : -1 ≤ hd ∧ hd < 4) (hR : 0 ≤ hd → MRu h0 hd c) (hnc : (cB (zv h0 211) n : Int) = nc) (hrow : rowW h0 n) (K : ∀ h', DM h0 h' → (∀ p ∈ pU (mfr h0 n) L n, mil ((gW (mfr h0 n) k hd c L n nc) p)) → Q (some (.int (iI (mbf (gW (mfr h0 n) k hd c L n nc) (pU (mfr h0 n) L n)).1))) h')  : ∀ (nn : Nat) (y : Nat) (h : ab_H), n - y = nn → (y ≤ n) → (DM h0 h) → (∀ p ∈ pU (mfr h0 n) L y, mil ((gW (mfr h0 n) k hd c L n nc) p)) → ab_X (d + 36) mX12_choice 8 [(0, .ref 200), (1, .int (iI (s : Int))), (2, .int (iI k)), (3, .int (iI ((mbf (gW (mfr h0 n) k hd c L n nc) (pU (mfr h0 n) L y)).1))), (4, .int (iI ((mbf (gW (mfr h0 n) k hd c L n nc) (pU (mfr h0 n) L y)).2))), (5, .int (iI (y : Int)))] [] h Q := by
  intro nn
  induction nn using Nat.strongRecOn with
  | ind nn ih =>
  intro y h hnn hy hD hB
  have hnH : zv h 200 32 = n := (hD.2.1 32 (by decide) (by decide)).trans hn
  have hLH : zv h 207 (2 * s) = L := (hD.1 207 _ (by decide) (by decide)).trans hL
  have hmb : (-1 ≤ (mbf (gW (mfr h0 n) k hd c L n nc) (pU (mfr h0 n) L y)).1 ∧ (mbf (gW (mfr h0 n) k hd c L n nc) (pU (mfr h0 n) L y)).1 ≤ 1000) ∧ mil (mbf (gW (mfr h0 n) k hd c L n nc) (pU (mfr h0 n) L y)).2 := mst_b _ _ (fun p hp => ⟨by have := List.mem_range.mp (List.mem_filter.mp hp).1; omega, hB p hp⟩) ⟨by decide, by unfold mil; decide⟩
  unfold mil at hmb
  refine ab_iload (k := 5) dX12_choice_8 rfl ?_
  refine ab_aload_n (k := 0) dX12_choice_10 rfl rfl ?_
  refine z_getI dX12_choice_11 fX12_290 rfl (Or.inl rfl) ?_
  refine z_is (y := (n : Int)) hnH ?_
  refine z_icmp_ge (tgt := 68) dX12_choice_14 (by decide) (by omega) (by omega) (fun c14 => ?_) (fun c14 => ?_)
  · skip
    refine ab_iload_n (k := 3) dX12_choice_68 rfl rfl ?_
    refine z_iret dX12_choice_69 rfl ?_
    have e : y = n := by omega
    subst e
    exact K h hD hB
  · skip
    refine ab_aload_n (k := 0) dX12_choice_17 rfl rfl ?_
    refine ab_iload_n (k := 1) dX12_choice_18 rfl rfl ?_
    refine ab_iload (k := 5) dX12_choice_19 rfl ?_
    refine ab_callV (As := [.int (iI (s : Int)), .int (iI (y : Int))]) (rest := []) dX12_choice_21 lX12_318 rfl (Nat.le_of_ble_eq_true rfl) (Nat.le_of_ble_eq_true rfl) rfl ?_
    refine c_mcanStop hnH hn2 hs hLH hL2.2 (by omega) (fun g21 => ?_) (fun g21 => ?_)
    · skip
      try simp only [Int.toNat_natCast] at g21
      have gL := g21
      show ab_X (d + 36) mX12_choice 24 [(0, .ref 200), (1, .int (iI (s : Int))), (2, .int (iI k)), (3, .int (iI ((mbf (gW (mfr h0 n) k hd c L n nc) (pU (mfr h0 n) L y)).1))), (4, .int (iI ((mbf (gW (mfr h0 n) k hd c L n nc) (pU (mfr h0 n) L y)).2))), (5, .int (iI (y : Int)))] [.int (iI 1)] h _
      refine z_if_ne (tgt := 30) dX12_choice_24 (by decide) (by decide) (fun _ => ?_) (fun c24 => absurd c24 (by decide))
      refine ab_aload_n (k := 0) dX12_choice_30 rfl rfl ?_
      refine ab_iload_n (k := 1) dX12_choice_31 rfl rfl ?_
      refine ab_iload_n (k := 2) dX12_choice_32 rfl rfl ?_
      refine ab_iload (k := 5) dX12_choice_33 rfl ?_
      refine ab_callV (As := [.int (iI (s : Int)), .int (iI k), .int (iI (y : Int))]) (rest := []) dX12_choice_35 lX12_342 rfl (Nat.le_of_ble_eq_true rfl) (Nat.le_of_ble_eq_true rfl) rfl ?_
      have hy2 := allf_iff.mp g21
      rw [mfr_D hD] at hy2
      refine c_worthOf (nc := nc) (c := c) (hd := hd) hnH hn2 hs hLH hL2 hk ((hD.2.1 33 (by decide) (by decide)).trans hhd) hhd2 (fun q => MRu_D hD (hR q)) (by rw [cB_D hD]; exact hnc) g21 (fun x hx e => by rw [cB_D hD] at e ⊢; exact hrow.1 y x (by omega) hx e) (by rw [hD.1 212 y (by decide) (by decide)]; exact hrow.2 y (by omega) (mfr_iff.mp (hy2 y (Nat.le_refl y) (by omega))).2) (fun j35 D35 w35 => ?_)
      rw [mfr_D hD] at w35 ⊢
      show ab_X (d + 36) mX12_choice 38 [(0, .ref 200), (1, .int (iI (s : Int))), (2, .int (iI k)), (3, .int (iI ((mbf (gW (mfr h0 n) k hd c L n nc) (pU (mfr h0 n) L y)).1))), (4, .int (iI ((mbf (gW (mfr h0 n) k hd c L n nc) (pU (mfr h0 n) L y)).2))), (5, .int (iI (y : Int)))] [.int (iI (gW (mfr h0 n) k hd c L n nc y))] j35 _
      refine ab_istore (ls' := [(6, .int (iI (gW (mfr h0 n) k hd c L n nc y))), (0, .ref 200), (1, .int (iI (s : Int))), (2, .int (iI k)), (3, .int (iI ((mbf (gW (mfr h0 n) k hd c L n nc) (pU (mfr h0 n) L y)).1))), (4, .int (iI ((mbf (gW (mfr h0 n) k hd c L n nc) (pU (mfr h0 n) L y)).2))), (5, .int (iI (y : Int)))]) dX12_choice_38 (by decide) rfl ?_
      refine ab_iload_n (k := 4) dX12_choice_40 rfl rfl ?_
      refine z_iconst dX12_choice_41 ?_
      refine z_icmp_eq (tgt := 55) dX12_choice_42 (by decide) (by omega) (by decide) (fun c42 => ?_) (fun c42 => ?_)
      · skip
        refine ab_iload (k := 6) dX12_choice_55 rfl ?_
        refine ab_istore_n (ls' := [(3, .int (iI (y : Int))), (6, .int (iI (gW (mfr h0 n) k hd c L n nc y))), (0, .ref 200), (1, .int (iI (s : Int))), (2, .int (iI k)), (4, .int (iI ((mbf (gW (mfr h0 n) k hd c L n nc) (pU (mfr h0 n) L y)).2))), (5, .int (iI (y : Int)))]) dX12_choice_57 rfl (by decide) rfl ?_
        refine ab_iload (k := 1) dX12_choice_58 rfl ?_
        refine ab_istore (ls' := [(4, .int (iI (gW (mfr h0 n) k hd c L n nc y))), (3, .int (iI (y : Int))), (6, .int (iI (gW (mfr h0 n) k hd c L n nc y))), (0, .ref 200), (1, .int (iI (s : Int))), (2, .int (iI k)), (5, .int (iI (y : Int)))]) dX12_choice_60 (by decide) rfl ?_
        refine z_iinc (k := 6) (v := (y : Int) + 1) (ls' := [(5, .int (iI ((y : Int) + 1))), (4, .int (iI (gW (mfr h0 n) k hd c L n nc y))), (3, .int (iI (y : Int))), (6, .int (iI (gW (mfr h0 n) k hd c L n nc y))), (0, .ref 200), (1, .int (iI (s : Int))), (2, .int (iI k))]) dX12_choice_62 rfl rfl (by decide) rfl ?_
        refine ab_goto (tgt := 8) dX12_choice_65 (by decide) ?_
        refine ab_sub (ls' := [(0, .ref 200), (1, .int (iI (s : Int))), (2, .int (iI k)), (3, .int (iI (y : Int))), (4, .int (iI (gW (mfr h0 n) k hd c L n nc y))), (5, .int (iI ((y : Int) + 1)))]) (ks := [4, 5, 6, 2, 1, 0]) rfl ?_
        first
        | (rw [mfr_D hD] at g21
           have ih2 := ih _ (by omega) (y + 1) h rfl (by omega) hD (by rw [pU_f g21]; exact hB)
           rw [pU_f g21] at ih2
           exact ih2)
        | (rw [mfr_D hD] at g21
           have e := mbf_s (gW (mfr h0 n) k hd c L n nc) (pU (mfr h0 n) L y) y
           rw [← pU_t g21] at e
           unfold mstep at e
           rw [if_pos (by omega)] at e
           have ih2 := ih _ (by omega) (y + 1) j35 rfl (by omega) (hD.tr D35) (fun p hp => by
             rw [pU_t g21] at hp
             rcases List.mem_append.mp hp with q | q
             · exact hB p q
             · rw [List.mem_singleton.mp q]; exact w35)
           rw [e] at ih2
           exact ih2)
        | (rw [mfr_D hD] at g21
           have e := mbf_s (gW (mfr h0 n) k hd c L n nc) (pU (mfr h0 n) L y) y
           rw [← pU_t g21] at e
           unfold mstep at e
           rw [if_neg (by omega)] at e
           have ih2 := ih _ (by omega) (y + 1) j35 rfl (by omega) (hD.tr D35) (fun p hp => by
             rw [pU_t g21] at hp
             rcases List.mem_append.mp hp with q | q
             · exact hB p q
             · rw [List.mem_singleton.mp q]; exact w35)
           rw [e] at ih2
           exact ih2)
      · skip
        refine ab_iload (k := 0) dX12_choice_45 rfl ?_
        refine ab_iload (k := 5) dX12_choice_47 rfl ?_
        refine z_icmp_gt (tgt := 55) dX12_choice_49 (by decide) (by omega) (by omega) (fun c49 => ?_) (fun c49 => ?_)
        · skip
          refine ab_iload (k := 6) dX12_choice_55 rfl ?_
          refine ab_istore_n (ls' := [(3, .int (iI (y : Int))), (6, .int (iI (gW (mfr h0 n) k hd c L n nc y))), (0, .ref 200), (1, .int (iI (s : Int))), (2, .int (iI k)), (4, .int (iI ((mbf (gW (mfr h0 n) k hd c L n nc) (pU (mfr h0 n) L y)).2))), (5, .int (iI (y : Int)))]) dX12_choice_57 rfl (by decide) rfl ?_
          refine ab_iload (k := 1) dX12_choice_58 rfl ?_
          refine ab_istore (ls' := [(4, .int (iI (gW (mfr h0 n) k hd c L n nc y))), (3, .int (iI (y : Int))), (6, .int (iI (gW (mfr h0 n) k hd c L n nc y))), (0, .ref 200), (1, .int (iI (s : Int))), (2, .int (iI k)), (5, .int (iI (y : Int)))]) dX12_choice_60 (by decide) rfl ?_
          refine z_iinc (k := 6) (v := (y : Int) + 1) (ls' := [(5, .int (iI ((y : Int) + 1))), (4, .int (iI (gW (mfr h0 n) k hd c L n nc y))), (3, .int (iI (y : Int))), (6, .int (iI (gW (mfr h0 n) k hd c L n nc y))), (0, .ref 200), (1, .int (iI (s : Int))), (2, .int (iI k))]) dX12_choice_62 rfl rfl (by decide) rfl ?_
          refine ab_goto (tgt := 8) dX12_choice_65 (by decide) ?_
          refine ab_sub (ls' := [(0, .ref 200), (1, .int (iI (s : Int))), (2, .int (iI k)), (3, .int (iI (y : Int))), (4, .int (iI (gW (mfr h0 n) k hd c L n nc y))), (5, .int (iI ((y : Int) + 1)))]) (ks := [4, 5, 6, 2, 1, 0]) rfl ?_
          first
          | (rw [mfr_D hD] at g21
             have ih2 := ih _ (by omega) (y + 1) h rfl (by omega) hD (by rw [pU_f g21]; exact hB)
             rw [pU_f g21] at ih2
             exact ih2)
          | (rw [mfr_D hD] at g21
             have e := mbf_s (gW (mfr h0 n) k hd c L n nc) (pU (mfr h0 n) L y) y
             rw [← pU_t g21] at e
             unfold mstep at e
             rw [if_pos (by omega)] at e
             have ih2 := ih _ (by omega) (y + 1) j35 rfl (by omega) (hD.tr D35) (fun p hp => by
               rw [pU_t g21] at hp
               rcases List.mem_append.mp hp with q | q
               · exact hB p q
               · rw [List.mem_singleton.mp q]; exact w35)
             rw [e] at ih2
             exact ih2)
          | (rw [mfr_D hD] at g21
             have e := mbf_s (gW (mfr h0 n) k hd c L n nc) (pU (mfr h0 n) L y) y
             rw [← pU_t g21] at e
             unfold mstep at e
             rw [if_neg (by omega)] at e
             have ih2 := ih _ (by omega) (y + 1) j35 rfl (by omega) (hD.tr D35) (fun p hp => by
               rw [pU_t g21] at hp
               rcases List.mem_append.mp hp with q | q
               · exact hB p q
               · rw [List.mem_singleton.mp q]; exact w35)
             rw [e] at ih2
             exact ih2)
        · skip
          refine ab_goto (tgt := 62) dX12_choice_52 (by decide) ?_
          refine z_iinc (k := 6) (v := (y : Int) + 1) (ls' := [(5, .int (iI ((y : Int) + 1))), (6, .int (iI (gW (mfr h0 n) k hd c L n nc y))), (0, .ref 200), (1, .int (iI (s : Int))), (2, .int (iI k)), (3, .int (iI ((mbf (gW (mfr h0 n) k hd c L n nc) (pU (mfr h0 n) L y)).1))), (4, .int (iI ((mbf (gW (mfr h0 n) k hd c L n nc) (pU (mfr h0 n) L y)).2)))]) dX12_choice_62 rfl rfl (by decide) rfl ?_
          refine ab_goto (tgt := 8) dX12_choice_65 (by decide) ?_
          refine ab_sub (ls' := [(0, .ref 200), (1, .int (iI (s : Int))), (2, .int (iI k)), (3, .int (iI ((mbf (gW (mfr h0 n) k hd c L n nc) (pU (mfr h0 n) L y)).1))), (4, .int (iI ((mbf (gW (mfr h0 n) k hd c L n nc) (pU (mfr h0 n) L y)).2))), (5, .int (iI ((y : Int) + 1)))]) (ks := [2, 3, 4, 5, 6, 0]) rfl ?_
          first
          | (rw [mfr_D hD] at g21
             have ih2 := ih _ (by omega) (y + 1) h rfl (by omega) hD (by rw [pU_f g21]; exact hB)
             rw [pU_f g21] at ih2
             exact ih2)
          | (rw [mfr_D hD] at g21
             have e := mbf_s (gW (mfr h0 n) k hd c L n nc) (pU (mfr h0 n) L y) y
             rw [← pU_t g21] at e
             unfold mstep at e
             rw [if_pos (by omega)] at e
             have ih2 := ih _ (by omega) (y + 1) j35 rfl (by omega) (hD.tr D35) (fun p hp => by
               rw [pU_t g21] at hp
               rcases List.mem_append.mp hp with q | q
               · exact hB p q
               · rw [List.mem_singleton.mp q]; exact w35)
             rw [e] at ih2
             exact ih2)
          | (rw [mfr_D hD] at g21
             have e := mbf_s (gW (mfr h0 n) k hd c L n nc) (pU (mfr h0 n) L y) y
             rw [← pU_t g21] at e
             unfold mstep at e
             rw [if_neg (by omega)] at e
             have ih2 := ih _ (by omega) (y + 1) j35 rfl (by omega) (hD.tr D35) (fun p hp => by
               rw [pU_t g21] at hp
               rcases List.mem_append.mp hp with q | q
               · exact hB p q
               · rw [List.mem_singleton.mp q]; exact w35)
             rw [e] at ih2
             exact ih2)
    · skip
      try simp only [Int.toNat_natCast] at g21
      have gL := g21
      show ab_X (d + 36) mX12_choice 24 [(0, .ref 200), (1, .int (iI (s : Int))), (2, .int (iI k)), (3, .int (iI ((mbf (gW (mfr h0 n) k hd c L n nc) (pU (mfr h0 n) L y)).1))), (4, .int (iI ((mbf (gW (mfr h0 n) k hd c L n nc) (pU (mfr h0 n) L y)).2))), (5, .int (iI (y : Int)))] [.int (iI 0)] h _
      refine z_if_ne (tgt := 30) dX12_choice_24 (by decide) (by decide) (fun c24 => absurd c24 (by decide)) (fun _ => ?_)
      refine ab_goto (tgt := 62) dX12_choice_27 (by decide) ?_
      refine z_iinc (k := 5) (v := (y : Int) + 1) (ls' := [(5, .int (iI ((y : Int) + 1))), (0, .ref 200), (1, .int (iI (s : Int))), (2, .int (iI k)), (3, .int (iI ((mbf (gW (mfr h0 n) k hd c L n nc) (pU (mfr h0 n) L y)).1))), (4, .int (iI ((mbf (gW (mfr h0 n) k hd c L n nc) (pU (mfr h0 n) L y)).2)))]) dX12_choice_62 rfl rfl (by decide) rfl ?_
      refine ab_goto (tgt := 8) dX12_choice_65 (by decide) ?_
      refine ab_sub (ls' := [(0, .ref 200), (1, .int (iI (s : Int))), (2, .int (iI k)), (3, .int (iI ((mbf (gW (mfr h0 n) k hd c L n nc) (pU (mfr h0 n) L y)).1))), (4, .int (iI ((mbf (gW (mfr h0 n) k hd c L n nc) (pU (mfr h0 n) L y)).2))), (5, .int (iI ((y : Int) + 1)))]) (ks := [1, 2, 3, 4, 5, 0]) rfl ?_
      first
      | (rw [mfr_D hD] at g21
         have ih2 := ih _ (by omega) (y + 1) h rfl (by omega) hD (by rw [pU_f g21]; exact hB)
         rw [pU_f g21] at ih2
         exact ih2)
      | (rw [mfr_D hD] at g21
         have e := mbf_s (gW (mfr h0 n) k hd c L n nc) (pU (mfr h0 n) L y) y
         rw [← pU_t g21] at e
         unfold mstep at e
         rw [if_pos (by omega)] at e
         have ih2 := ih _ (by omega) (y + 1) j35 rfl (by omega) (hD.tr D35) (fun p hp => by
           rw [pU_t g21] at hp
           rcases List.mem_append.mp hp with q | q
           · exact hB p q
           · rw [List.mem_singleton.mp q]; exact w35)
         rw [e] at ih2
         exact ih2)
      | (rw [mfr_D hD] at g21
         have e := mbf_s (gW (mfr h0 n) k hd c L n nc) (pU (mfr h0 n) L y) y
         rw [← pU_t g21] at e
         unfold mstep at e
         rw [if_neg (by omega)] at e
         have ih2 := ih _ (by omega) (y + 1) j35 rfl (by omega) (hD.tr D35) (fun p hp => by
           rw [pU_t g21] at hp
           rcases List.mem_append.mp hp with q | q
           · exact hB p q
           · rw [List.mem_singleton.mp q]; exact w35)
         rw [e] at ih2
         exact ih2)
