/-! CHOICE, WHERE, PARK of the model -/
def mil (v : Int) : Prop := -1000000 ≤ v ∧ v ≤ 1000000
theorem mst_b {g : Nat → Int} : ∀ (l : List Nat) (s : Int × Int), (∀ p ∈ l, p ≤ 1000 ∧ mil (g p)) → (-1 ≤ s.1 ∧ s.1 ≤ 1000) ∧ mil s.2 → (-1 ≤ (l.foldl (mstep g) s).1 ∧ (l.foldl (mstep g) s).1 ≤ 1000) ∧ mil (l.foldl (mstep g) s).2
  | [], s, _, h => h
  | p :: l, s, hl, h => by
    rw [List.foldl_cons]
    refine mst_b l _ (fun x hx => hl x (List.mem_cons_of_mem _ hx)) ?_
    have := hl p List.mem_cons_self
    unfold mstep
    split
    · exact ⟨by dsimp only; omega, this.2⟩
    · exact h
theorem mfr_D {h h' : ab_H} {n : Nat} (D : DM h h') : mfr h' n = mfr h n := by
  funext y; unfold mfr; rw [D.1 211 y (by decide) (by decide)]
theorem cB_D {h h' : ab_H} (D : DM h h') : zv h' 211 = zv h 211 := funext (fun y => D.1 211 y (by decide) (by decide))
def rowW (h : ab_H) (n : Nat) : Prop := (∀ (p y : Nat), p < n → y < n → zv h 211 y = p → zv h 211 p = p) ∧ ∀ p, p < n → zv h 211 p = -1 → zv h 212 p = -1
theorem mbf_in {g : Nat → Int} : ∀ (l : List Nat) (s : Int × Int), (l.foldl (mstep g) s).1 = s.1 ∨ ∃ p ∈ l, (l.foldl (mstep g) s).1 = (p : Int)
  | [], _ => Or.inl rfl
  | p :: l, s => by
    rw [List.foldl_cons]
    rcases mbf_in l (mstep g s p) with q | ⟨x, hx, q⟩
    · unfold mstep at q
      by_cases c : s.1 = -1 ∨ g p > s.2
      · rw [if_pos c] at q; exact Or.inr ⟨p, List.mem_cons_self, by unfold mstep; rw [if_pos c]; exact q⟩
      · rw [if_neg c] at q; exact Or.inl (by unfold mstep; rw [if_neg c]; exact q)
    · exact Or.inr ⟨x, List.mem_cons_of_mem _ hx, q⟩
theorem lp_mchoice {d : Nat} {Q : ab_Q} {h0 : ab_H} {n s L : Nat} {k hd nc : Int} {c : List (Int × Int)}  (hn : zv h0 200 32 = n) (hn2 : n ≤ 20) (hs : s < 4) (hL : zv h0 207 (2 * s) = L) (hL2 : 1 ≤ L ∧ L ≤ 9) (hk : 1 ≤ k ∧ k ≤ 4) (hhd : zv h0 200 33 = hd) (hhd2 : -1 ≤ hd ∧ hd < 4) (hR : 0 ≤ hd → MRu h0 hd c) (hnc : (cB (zv h0 211) n : Int) = nc) (hrow : rowW h0 n) (K : ∀ h', DM h0 h' → (∀ p ∈ pU (mfr h0 n) L n, mil ((gW (mfr h0 n) k hd c L n nc) p)) → Q (some (.int (iI (mbf (gW (mfr h0 n) k hd c L n nc) (pU (mfr h0 n) L n)).1))) h')  : ∀ (nn : Nat) (y : Nat) (h : ab_H), n - y = nn → (y ≤ n) → (DM h0 h) → (∀ p ∈ pU (mfr h0 n) L y, mil ((gW (mfr h0 n) k hd c L n nc) p)) → ab_X (d + 36) mX12_choice 8 [(0, .ref 200), (1, .int (iI (s : Int))), (2, .int (iI k)), (3, .int (iI ((mbf (gW (mfr h0 n) k hd c L n nc) (pU (mfr h0 n) L y)).1))), (4, .int (iI ((mbf (gW (mfr h0 n) k hd c L n nc) (pU (mfr h0 n) L y)).2))), (5, .int (iI (y : Int)))] [] h Q := by
  intro nn
  induction nn using Nat.strongRecOn with
  | ind nn ih =>
  intro y h hnn hy hD hB
  have hnH : zv h 200 32 = n := (hD.2.1 32 (by decide) (by decide)).trans hn
  have hLH : zv h 207 (2 * s) = L := (hD.1 207 _ (by decide) (by decide)).trans hL
  have hmb : (-1 ≤ (mbf (gW (mfr h0 n) k hd c L n nc) (pU (mfr h0 n) L y)).1 ∧ (mbf (gW (mfr h0 n) k hd c L n nc) (pU (mfr h0 n) L y)).1 ≤ 1000) ∧ mil (mbf (gW (mfr h0 n) k hd c L n nc) (pU (mfr h0 n) L y)).2 := mst_b _ _ (fun p hp => ⟨by have := List.mem_range.mp (List.mem_filter.mp hp).1; omega, hB p hp⟩) ⟨by decide, by unfold mil; decide⟩
  unfold mil at hmb
  refine ab_iload (k := 5) dX12_choice_8 rfl ?_
  refine ab_aload_n (k := 0) dX12_choice_10 rfl rfl ?_
  refine z_getI dX12_choice_11 fX12_290 rfl (Or.inl rfl) ?_
  refine z_is (y := (n : Int)) hnH ?_
  refine z_icmp_ge (tgt := 68) dX12_choice_14 (by decide) (by omega) (by omega) (fun c14 => ?_) (fun c14 => ?_)
  · skip
    refine ab_iload_n (k := 3) dX12_choice_68 rfl rfl ?_
    refine z_iret dX12_choice_69 rfl ?_
    have e : y = n := by omega
    subst e
    exact K h hD hB
  · skip
    refine ab_aload_n (k := 0) dX12_choice_17 rfl rfl ?_
    refine ab_iload_n (k := 1) dX12_choice_18 rfl rfl ?_
    refine ab_iload (k := 5) dX12_choice_19 rfl ?_
    refine ab_callV (As := [.int (iI (s : Int)), .int (iI (y : Int))]) (rest := []) dX12_choice_21 lX12_318 rfl (Nat.le_of_ble_eq_true rfl) (Nat.le_of_ble_eq_true rfl) rfl ?_
    refine c_mcanStop hnH hn2 hs hLH hL2.2 (by omega) (fun g21 => ?_) (fun g21 => ?_)
    · skip
      try simp only [Int.toNat_natCast] at g21
      have gL := g21
      show ab_X (d + 36) mX12_choice 24 [(0, .ref 200), (1, .int (iI (s : Int))), (2, .int (iI k)), (3, .int (iI ((mbf (gW (mfr h0 n) k hd c L n nc) (pU (mfr h0 n) L y)).1))), (4, .int (iI ((mbf (gW (mfr h0 n) k hd c L n nc) (pU (mfr h0 n) L y)).2))), (5, .int (iI (y : Int)))] [.int (iI 1)] h _
      refine z_if_ne (tgt := 30) dX12_choice_24 (by decide) (by decide) (fun _ => ?_) (fun c24 => absurd c24 (by decide))
      refine ab_aload_n (k := 0) dX12_choice_30 rfl rfl ?_
      refine ab_iload_n (k := 1) dX12_choice_31 rfl rfl ?_
      refine ab_iload_n (k := 2) dX12_choice_32 rfl rfl ?_
      refine ab_iload (k := 5) dX12_choice_33 rfl ?_
      refine ab_callV (As := [.int (iI (s : Int)), .int (iI k), .int (iI (y : Int))]) (rest := []) dX12_choice_35 lX12_342 rfl (Nat.le_of_ble_eq_true rfl) (Nat.le_of_ble_eq_true rfl) rfl ?_
      have hy2 := allf_iff.mp g21
      rw [mfr_D hD] at hy2
      refine c_worthOf (nc := nc) (c := c) (hd := hd) hnH hn2 hs hLH hL2 hk ((hD.2.1 33 (by decide) (by decide)).trans hhd) hhd2 (fun q => MRu_D hD (hR q)) (by rw [cB_D hD]; exact hnc) g21 (fun x hx e => by rw [cB_D hD] at e ⊢; exact hrow.1 y x (by omega) hx e) (by rw [hD.1 212 y (by decide) (by decide)]; exact hrow.2 y (by omega) (mfr_iff.mp (hy2 y (Nat.le_refl y) (by omega))).2) (fun j35 D35 w35 => ?_)
      rw [mfr_D hD] at w35 ⊢
      show ab_X (d + 36) mX12_choice 38 [(0, .ref 200), (1, .int (iI (s : Int))), (2, .int (iI k)), (3, .int (iI ((mbf (gW (mfr h0 n) k hd c L n nc) (pU (mfr h0 n) L y)).1))), (4, .int (iI ((mbf (gW (mfr h0 n) k hd c L n nc) (pU (mfr h0 n) L y)).2))), (5, .int (iI (y : Int)))] [.int (iI (gW (mfr h0 n) k hd c L n nc y))] j35 _
      refine ab_istore (ls' := [(6, .int (iI (gW (mfr h0 n) k hd c L n nc y))), (0, .ref 200), (1, .int (iI (s : Int))), (2, .int (iI k)), (3, .int (iI ((mbf (gW (mfr h0 n) k hd c L n nc) (pU (mfr h0 n) L y)).1))), (4, .int (iI ((mbf (gW (mfr h0 n) k hd c L n nc) (pU (mfr h0 n) L y)).2))), (5, .int (iI (y : Int)))]) dX12_choice_38 (by decide) rfl ?_
      refine ab_iload_n (k := 4) dX12_choice_40 rfl rfl ?_
      refine z_iconst dX12_choice_41 ?_
      refine z_icmp_eq (tgt := 55) dX12_choice_42 (by decide) (by omega) (by decide) (fun c42 => ?_) (fun c42 => ?_)
      · skip
        refine ab_iload (k := 6) dX12_choice_55 rfl ?_
        refine ab_istore_n (ls' := [(3, .int (iI (y : Int))), (6, .int (iI (gW (mfr h0 n) k hd c L n nc y))), (0, .ref 200), (1, .int (iI (s : Int))), (2, .int (iI k)), (4, .int (iI ((mbf (gW (mfr h0 n) k hd c L n nc) (pU (mfr h0 n) L y)).2))), (5, .int (iI (y : Int)))]) dX12_choice_57 rfl (by decide) rfl ?_
        refine ab_iload (k := 1) dX12_choice_58 rfl ?_
        refine ab_istore (ls' := [(4, .int (iI (gW (mfr h0 n) k hd c L n nc y))), (3, .int (iI (y : Int))), (6, .int (iI (gW (mfr h0 n) k hd c L n nc y))), (0, .ref 200), (1, .int (iI (s : Int))), (2, .int (iI k)), (5, .int (iI (y : Int)))]) dX12_choice_60 (by decide) rfl ?_
        refine z_iinc (k := 6) (v := (y : Int) + 1) (ls' := [(5, .int (iI ((y : Int) + 1))), (4, .int (iI (gW (mfr h0 n) k hd c L n nc y))), (3, .int (iI (y : Int))), (6, .int (iI (gW (mfr h0 n) k hd c L n nc y))), (0, .ref 200), (1, .int (iI (s : Int))), (2, .int (iI k))]) dX12_choice_62 rfl rfl (by decide) rfl ?_
        refine ab_goto (tgt := 8) dX12_choice_65 (by decide) ?_
        refine ab_sub (ls' := [(0, .ref 200), (1, .int (iI (s : Int))), (2, .int (iI k)), (3, .int (iI (y : Int))), (4, .int (iI (gW (mfr h0 n) k hd c L n nc y))), (5, .int (iI ((y : Int) + 1)))]) (ks := [4, 5, 6, 2, 1, 0]) rfl ?_
        first
        | (rw [mfr_D hD] at g21
           have ih2 := ih _ (by omega) (y + 1) h rfl (by omega) hD (by rw [pU_f g21]; exact hB)
           rw [pU_f g21] at ih2
           exact ih2)
        | (rw [mfr_D hD] at g21
           have e := mbf_s (gW (mfr h0 n) k hd c L n nc) (pU (mfr h0 n) L y) y
           rw [← pU_t g21] at e
           unfold mstep at e
           rw [if_pos (by omega)] at e
           have ih2 := ih _ (by omega) (y + 1) j35 rfl (by omega) (hD.tr D35) (fun p hp => by
             rw [pU_t g21] at hp
             rcases List.mem_append.mp hp with q | q
             · exact hB p q
             · rw [List.mem_singleton.mp q]; exact w35)
           rw [e] at ih2
           exact ih2)
        | (rw [mfr_D hD] at g21
           have e := mbf_s (gW (mfr h0 n) k hd c L n nc) (pU (mfr h0 n) L y) y
           rw [← pU_t g21] at e
           unfold mstep at e
           rw [if_neg (by omega)] at e
           have ih2 := ih _ (by omega) (y + 1) j35 rfl (by omega) (hD.tr D35) (fun p hp => by
             rw [pU_t g21] at hp
             rcases List.mem_append.mp hp with q | q
             · exact hB p q
             · rw [List.mem_singleton.mp q]; exact w35)
           rw [e] at ih2
           exact ih2)
      · skip
        refine ab_iload (k := 0) dX12_choice_45 rfl ?_
        refine ab_iload (k := 5) dX12_choice_47 rfl ?_
        refine z_icmp_gt (tgt := 55) dX12_choice_49 (by decide) (by omega) (by omega) (fun c49 => ?_) (fun c49 => ?_)
        · skip
          refine ab_iload (k := 6) dX12_choice_55 rfl ?_
          refine ab_istore_n (ls' := [(3, .int (iI (y : Int))), (6, .int (iI (gW (mfr h0 n) k hd c L n nc y))), (0, .ref 200), (1, .int (iI (s : Int))), (2, .int (iI k)), (4, .int (iI ((mbf (gW (mfr h0 n) k hd c L n nc) (pU (mfr h0 n) L y)).2))), (5, .int (iI (y : Int)))]) dX12_choice_57 rfl (by decide) rfl ?_
          refine ab_iload (k := 1) dX12_choice_58 rfl ?_
          refine ab_istore (ls' := [(4, .int (iI (gW (mfr h0 n) k hd c L n nc y))), (3, .int (iI (y : Int))), (6, .int (iI (gW (mfr h0 n) k hd c L n nc y))), (0, .ref 200), (1, .int (iI (s : Int))), (2, .int (iI k)), (5, .int (iI (y : Int)))]) dX12_choice_60 (by decide) rfl ?_
          refine z_iinc (k := 6) (v := (y : Int) + 1) (ls' := [(5, .int (iI ((y : Int) + 1))), (4, .int (iI (gW (mfr h0 n) k hd c L n nc y))), (3, .int (iI (y : Int))), (6, .int (iI (gW (mfr h0 n) k hd c L n nc y))), (0, .ref 200), (1, .int (iI (s : Int))), (2, .int (iI k))]) dX12_choice_62 rfl rfl (by decide) rfl ?_
          refine ab_goto (tgt := 8) dX12_choice_65 (by decide) ?_
          refine ab_sub (ls' := [(0, .ref 200), (1, .int (iI (s : Int))), (2, .int (iI k)), (3, .int (iI (y : Int))), (4, .int (iI (gW (mfr h0 n) k hd c L n nc y))), (5, .int (iI ((y : Int) + 1)))]) (ks := [4, 5, 6, 2, 1, 0]) rfl ?_
          first
          | (rw [mfr_D hD] at g21
             have ih2 := ih _ (by omega) (y + 1) h rfl (by omega) hD (by rw [pU_f g21]; exact hB)
             rw [pU_f g21] at ih2
             exact ih2)
          | (rw [mfr_D hD] at g21
             have e := mbf_s (gW (mfr h0 n) k hd c L n nc) (pU (mfr h0 n) L y) y
             rw [← pU_t g21] at e
             unfold mstep at e
             rw [if_pos (by omega)] at e
             have ih2 := ih _ (by omega) (y + 1) j35 rfl (by omega) (hD.tr D35) (fun p hp => by
               rw [pU_t g21] at hp
               rcases List.mem_append.mp hp with q | q
               · exact hB p q
               · rw [List.mem_singleton.mp q]; exact w35)
             rw [e] at ih2
             exact ih2)
          | (rw [mfr_D hD] at g21
             have e := mbf_s (gW (mfr h0 n) k hd c L n nc) (pU (mfr h0 n) L y) y
             rw [← pU_t g21] at e
             unfold mstep at e
             rw [if_neg (by omega)] at e
             have ih2 := ih _ (by omega) (y + 1) j35 rfl (by omega) (hD.tr D35) (fun p hp => by
               rw [pU_t g21] at hp
               rcases List.mem_append.mp hp with q | q
               · exact hB p q
               · rw [List.mem_singleton.mp q]; exact w35)
             rw [e] at ih2
             exact ih2)
        · skip
          refine ab_goto (tgt := 62) dX12_choice_52 (by decide) ?_
          refine z_iinc (k := 6) (v := (y : Int) + 1) (ls' := [(5, .int (iI ((y : Int) + 1))), (6, .int (iI (gW (mfr h0 n) k hd c L n nc y))), (0, .ref 200), (1, .int (iI (s : Int))), (2, .int (iI k)), (3, .int (iI ((mbf (gW (mfr h0 n) k hd c L n nc) (pU (mfr h0 n) L y)).1))), (4, .int (iI ((mbf (gW (mfr h0 n) k hd c L n nc) (pU (mfr h0 n) L y)).2)))]) dX12_choice_62 rfl rfl (by decide) rfl ?_
          refine ab_goto (tgt := 8) dX12_choice_65 (by decide) ?_
          refine ab_sub (ls' := [(0, .ref 200), (1, .int (iI (s : Int))), (2, .int (iI k)), (3, .int (iI ((mbf (gW (mfr h0 n) k hd c L n nc) (pU (mfr h0 n) L y)).1))), (4, .int (iI ((mbf (gW (mfr h0 n) k hd c L n nc) (pU (mfr h0 n) L y)).2))), (5, .int (iI ((y : Int) + 1)))]) (ks := [2, 3, 4, 5, 6, 0]) rfl ?_
          first
          | (rw [mfr_D hD] at g21
             have ih2 := ih _ (by omega) (y + 1) h rfl (by omega) hD (by rw [pU_f g21]; exact hB)
             rw [pU_f g21] at ih2
             exact ih2)
          | (rw [mfr_D hD] at g21
             have e := mbf_s (gW (mfr h0 n) k hd c L n nc) (pU (mfr h0 n) L y) y
             rw [← pU_t g21] at e
             unfold mstep at e
             rw [if_pos (by omega)] at e
             have ih2 := ih _ (by omega) (y + 1) j35 rfl (by omega) (hD.tr D35) (fun p hp => by
               rw [pU_t g21] at hp
               rcases List.mem_append.mp hp with q | q
               · exact hB p q
               · rw [List.mem_singleton.mp q]; exact w35)
             rw [e] at ih2
             exact ih2)
          | (rw [mfr_D hD] at g21
             have e := mbf_s (gW (mfr h0 n) k hd c L n nc) (pU (mfr h0 n) L y) y
             rw [← pU_t g21] at e
             unfold mstep at e
             rw [if_neg (by omega)] at e
             have ih2 := ih _ (by omega) (y + 1) j35 rfl (by omega) (hD.tr D35) (fun p hp => by
               rw [pU_t g21] at hp
               rcases List.mem_append.mp hp with q | q
               · exact hB p q
               · rw [List.mem_singleton.mp q]; exact w35)
             rw [e] at ih2
             exact ih2)
    · skip
      try simp only [Int.toNat_natCast] at g21
      have gL := g21
      show ab_X (d + 36) mX12_choice 24 [(0, .ref 200), (1, .int (iI (s : Int))), (2, .int (iI k)), (3, .int (iI ((mbf (gW (mfr h0 n) k hd c L n nc) (pU (mfr h0 n) L y)).1))), (4, .int (iI ((mbf (gW (mfr h0 n) k hd c L n nc) (pU (mfr h0 n) L y)).2))), (5, .int (iI (y : Int)))] [.int (iI 0)] h _
      refine z_if_ne (tgt := 30) dX12_choice_24 (by decide) (by decide) (fun c24 => absurd c24 (by decide)) (fun _ => ?_)
      refine ab_goto (tgt := 62) dX12_choice_27 (by decide) ?_
      refine z_iinc (k := 5) (v := (y : Int) + 1) (ls' := [(5, .int (iI ((y : Int) + 1))), (0, .ref 200), (1, .int (iI (s : Int))), (2, .int (iI k)), (3, .int (iI ((mbf (gW (mfr h0 n) k hd c L n nc) (pU (mfr h0 n) L y)).1))), (4, .int (iI ((mbf (gW (mfr h0 n) k hd c L n nc) (pU (mfr h0 n) L y)).2)))]) dX12_choice_62 rfl rfl (by decide) rfl ?_
      refine ab_goto (tgt := 8) dX12_choice_65 (by decide) ?_
      refine ab_sub (ls' := [(0, .ref 200), (1, .int (iI (s : Int))), (2, .int (iI k)), (3, .int (iI ((mbf (gW (mfr h0 n) k hd c L n nc) (pU (mfr h0 n) L y)).1))), (4, .int (iI ((mbf (gW (mfr h0 n) k hd c L n nc) (pU (mfr h0 n) L y)).2))), (5, .int (iI ((y : Int) + 1)))]) (ks := [1, 2, 3, 4, 5, 0]) rfl ?_
      first
      | (rw [mfr_D hD] at g21
         have ih2 := ih _ (by omega) (y + 1) h rfl (by omega) hD (by rw [pU_f g21]; exact hB)
         rw [pU_f g21] at ih2
         exact ih2)
      | (rw [mfr_D hD] at g21
         have e := mbf_s (gW (mfr h0 n) k hd c L n nc) (pU (mfr h0 n) L y) y
         rw [← pU_t g21] at e
         unfold mstep at e
         rw [if_pos (by omega)] at e
         have ih2 := ih _ (by omega) (y + 1) j35 rfl (by omega) (hD.tr D35) (fun p hp => by
           rw [pU_t g21] at hp
           rcases List.mem_append.mp hp with q | q
           · exact hB p q
           · rw [List.mem_singleton.mp q]; exact w35)
         rw [e] at ih2
         exact ih2)
      | (rw [mfr_D hD] at g21
         have e := mbf_s (gW (mfr h0 n) k hd c L n nc) (pU (mfr h0 n) L y) y
         rw [← pU_t g21] at e
         unfold mstep at e
         rw [if_neg (by omega)] at e
         have ih2 := ih _ (by omega) (y + 1) j35 rfl (by omega) (hD.tr D35) (fun p hp => by
           rw [pU_t g21] at hp
           rcases List.mem_append.mp hp with q | q
           · exact hB p q
           · rw [List.mem_singleton.mp q]; exact w35)
         rw [e] at ih2
         exact ih2)
theorem c_mchoice {d : Nat} {h : ab_H} {Q : ab_Q} {n s L : Nat} {k hd nc : Int} {c : List (Int × Int)}  (hn : zv h 200 32 = n) (hn2 : n ≤ 20) (hs : s < 4) (hL : zv h 207 (2 * s) = L) (hL2 : 1 ≤ L ∧ L ≤ 9) (hk : 1 ≤ k ∧ k ≤ 4) (hhd : zv h 200 33 = hd) (hhd2 : -1 ≤ hd ∧ hd < 4) (hR : 0 ≤ hd → MRu h hd c) (hnc : (cB (zv h 211) n : Int) = nc) (hrow : rowW h n) (K : ∀ h', DM h h' → (∀ p ∈ pU (mfr h n) L n, mil ((gW (mfr h n) k hd c L n nc) p)) → Q (some (.int (iI (mbf (gW (mfr h n) k hd c L n nc) (pU (mfr h n) L n)).1))) h')  : ab_X (d + 36) mX12_choice 0 (lv_args 0 [.ref 200, .int (iI (s : Int)), .int (iI k)]) [] h Q := by
  show ab_X (d + 36) mX12_choice 0 [(0, .ref 200), (1, .int (iI (s : Int))), (2, .int (iI k))] [] h Q
  refine z_iconst dX12_choice_0 ?_
  refine ab_istore_n (ls' := [(3, .int (iI (-1))), (0, .ref 200), (1, .int (iI (s : Int))), (2, .int (iI k))]) dX12_choice_1 rfl (by decide) rfl ?_
  refine z_iconst dX12_choice_2 ?_
  refine ab_istore (ls' := [(4, .int (iI 0)), (3, .int (iI (-1))), (0, .ref 200), (1, .int (iI (s : Int))), (2, .int (iI k))]) dX12_choice_3 (by decide) rfl ?_
  refine z_iconst dX12_choice_5 ?_
  refine ab_istore (ls' := [(5, .int (iI 0)), (4, .int (iI 0)), (3, .int (iI (-1))), (0, .ref 200), (1, .int (iI (s : Int))), (2, .int (iI k))]) dX12_choice_6 (by decide) rfl ?_
  refine ab_sub (ls' := [(0, .ref 200), (1, .int (iI (s : Int))), (2, .int (iI k)), (3, .int (iI (-1))), (4, .int (iI 0)), (5, .int (iI 0))]) (ks := [3, 4, 5, 2, 1, 0]) rfl ?_
  exact lp_mchoice hn hn2 hs hL hL2 hk hhd hhd2 hR hnc hrow K _ 0 h rfl (by omega) DM.rf (fun p hp => absurd hp List.not_mem_nil)
theorem c_mwhere {d : Nat} {h : ab_H} {Q : ab_Q} {h9 : ab_H} {n L : Nat} {s : Int} {k hd nc : Int} {c : List (Int × Int)}  (e9 : zp h 200 0 0 = h9) (hs0 : inR s) (hk0 : inR k) (hn : zv h9 200 32 = n) (hn2 : n ≤ 20) (hN : zv h9 200 24 ≤ 4) (hL : 0 ≤ s ∧ s < zv h9 200 24 → zv h9 207 (2 * s.toNat) = L ∧ 1 ≤ L ∧ L ≤ 9) (hhd : zv h9 200 33 = hd) (hhd2 : -1 ≤ hd ∧ hd < 4) (hR : 0 ≤ hd → MRu h9 hd c) (hnc : (cB (zv h9 211) n : Int) = nc) (hrow : rowW h9 n) (k0 : ¬ ((0 ≤ s ∧ s < zv h9 200 24) ∧ 1 ≤ k ∧ k ≤ 4) → Q (some (.int (iI (-1)))) h9) (k1 : ((0 ≤ s ∧ s < zv h9 200 24) ∧ 1 ≤ k ∧ k ≤ 4) → ∀ h', DM h9 h' → (∀ p ∈ pU (mfr h9 n) L n, mil ((gW (mfr h9 n) k hd c L n nc) p)) → Q (some (.int (iI ((mbf (gW (mfr h9 n) k hd c L n nc) (pU (mfr h9 n) L n)).1)))) h') : ab_X (d + 37) mX12_where 0 (lv_args 0 [.ref 200, .int (iI s), .int (iI k)]) [] h Q := by
  show ab_X (d + 37) mX12_where 0 [(0, .ref 200), (1, .int (iI s)), (2, .int (iI k))] [] h Q
  refine ab_aload_n (k := 0) dX12_where_0 rfl rfl ?_
  refine z_iconst dX12_where_1 ?_
  refine z_putI dX12_where_2 fX12_111 rfl rfl ?_
  rw [e9]
  refine ab_aload_n (k := 0) dX12_where_5 rfl rfl ?_
  refine ab_iload_n (k := 1) dX12_where_6 rfl rfl ?_
  refine ab_callV (As := [.int (iI s)]) (rest := []) dX12_where_7 lX12_307 rfl (Nat.le_of_ble_eq_true rfl) (Nat.le_of_ble_eq_true rfl) rfl ?_
  refine c_misSort (by omega) (fun g7 => ?_) (fun g7 => ?_)
  · skip
    try simp only [Int.toNat_natCast] at g7
    have gL := g7
    show ab_X (d + 37) mX12_where 10 [(0, .ref 200), (1, .int (iI s)), (2, .int (iI k))] [.int (iI 1)] h9 _
    refine z_if_eq (tgt := 34) dX12_where_10 (by decide) (by decide) (fun c10 => absurd c10 (by decide)) (fun _ => ?_)
    refine ab_iload_n (k := 2) dX12_where_13 rfl rfl ?_
    refine z_i2l dX12_where_14 (by omega) ?_
    refine z_lconst (v := 1) dX12_where_15 (by decide) ?_
    refine z_ldc2 (v := 4) dX12_where_16 qX12_346 (by decide) ?_
    refine ab_callS (As := [.long (lL k), .long (lL 1), .long (lL 4)]) (rest := []) dX12_where_19 lX12_232 (Nat.le_of_ble_eq_true rfl) (Nat.le_of_ble_eq_true rfl) rfl ?_
    refine c_isIn (by omega) (by omega) (by omega) (fun g19 => ?_) (fun g19 => ?_)
    · skip
      try simp only [Int.toNat_natCast] at g19
      have gL := g19
      show ab_X (d + 37) mX12_where 22 [(0, .ref 200), (1, .int (iI s)), (2, .int (iI k))] [.int (iI 1)] h9 _
      refine z_if_eq (tgt := 34) dX12_where_22 (by decide) (by decide) (fun c22 => absurd c22 (by decide)) (fun _ => ?_)
      refine ab_aload_n (k := 0) dX12_where_25 rfl rfl ?_
      refine ab_iload_n (k := 1) dX12_where_26 rfl rfl ?_
      refine ab_iload_n (k := 2) dX12_where_27 rfl rfl ?_
      refine ab_callV (As := [.int (iI s), .int (iI k)]) (rest := []) dX12_where_28 lX12_348 rfl (Nat.le_of_ble_eq_true rfl) (Nat.le_of_ble_eq_true rfl) rfl ?_
      obtain ⟨m, rfl⟩ : ∃ m : Nat, s = m := ⟨s.toNat, by omega⟩
      have hLq := hL (by omega)
      rw [Int.toNat_natCast] at hLq
      refine c_mchoice (s := m) (nc := nc) (c := c) (hd := hd) hn hn2 (by omega) hLq.1 hLq.2 (by omega) hhd hhd2 hR hnc hrow (fun j28 D28 B28 => ?_)
      show ab_X (d + 37) mX12_where 31 [(0, .ref 200), (1, .int (iI (m : Int))), (2, .int (iI k))] [.int (iI ((mbf (gW (mfr h9 n) k hd c L n nc) (pU (mfr h9 n) L n)).1))] j28 _
      refine ab_goto (tgt := 35) dX12_where_31 (by decide) ?_
      refine z_iret dX12_where_35 rfl ?_
      first | exact k0 (by omega) | exact k1 (by omega) j28 D28 B28
    · skip
      try simp only [Int.toNat_natCast] at g19
      have gL := g19
      show ab_X (d + 37) mX12_where 22 [(0, .ref 200), (1, .int (iI s)), (2, .int (iI k))] [.int (iI 0)] h9 _
      refine z_if_eq (tgt := 34) dX12_where_22 (by decide) (by decide) (fun _ => ?_) (fun c22 => absurd c22 (by decide))
      refine z_iconst dX12_where_34 ?_
      refine z_iret dX12_where_35 rfl ?_
      first | exact k0 (by omega) | exact k1 (by omega) j28 D28 B28
  · skip
    try simp only [Int.toNat_natCast] at g7
    have gL := g7
    show ab_X (d + 37) mX12_where 10 [(0, .ref 200), (1, .int (iI s)), (2, .int (iI k))] [.int (iI 0)] h9 _
    refine z_if_eq (tgt := 34) dX12_where_10 (by decide) (by decide) (fun _ => ?_) (fun c10 => absurd c10 (by decide))
    refine z_iconst dX12_where_34 ?_
    refine z_iret dX12_where_35 rfl ?_
    first | exact k0 (by omega) | exact k1 (by omega) j28 D28 B28
theorem c_mpark {d : Nat} {h : ab_H} {Q : ab_Q} {h9 : ab_H} {n L : Nat} {s : Int} {k hd nc : Int} {c : List (Int × Int)} {a : Nat}  (e9 : zp h 200 0 0 = h9) (hs0 : inR s) (hk0 : inR k) (hn : zv h9 200 32 = n) (hn2 : n ≤ 20) (hN : zv h9 200 24 ≤ 4) (hL : 0 ≤ s ∧ s < zv h9 200 24 → zv h9 207 (2 * s.toNat) = L ∧ 1 ≤ L ∧ L ≤ 9) (hhd : zv h9 200 33 = hd) (hhd2 : -1 ≤ hd ∧ hd < 4) (hR : 0 ≤ hd → MRu h9 hd c) (hnc : (cB (zv h9 211) n : Int) = nc) (hrow : rowW h9 n) (ha : zv h9 200 37 = (a : Int)) (ha2 : a ≤ 40) (k0 : ¬ ((0 ≤ s ∧ s < zv h9 200 24) ∧ 1 ≤ k ∧ k ≤ 4) → Q (some (.int (iI (-1)))) h9) (k1 : ((0 ≤ s ∧ s < zv h9 200 24) ∧ 1 ≤ k ∧ k ≤ 4) → ∀ h', DM h9 h' → (∀ p ∈ pU (mfr h9 n) L n, mil ((gW (mfr h9 n) k hd c L n nc) p)) → (mbf (gW (mfr h9 n) k hd c L n nc) (pU (mfr h9 n) L n)).1 = -1 → Q (some (.int (iI (-1)))) h') (k2 : ((0 ≤ s ∧ s < zv h9 200 24) ∧ 1 ≤ k ∧ k ≤ 4) → ∀ (m p : Nat) h1 hk h2, s = m → (mbf (gW (mfr h9 n) k hd c L n nc) (pU (mfr h9 n) L n)).1 = p → p ∈ pU (mfr h9 n) L n → DM h9 h1 → (∀ p ∈ pU (mfr h9 n) L n, mil ((gW (mfr h9 n) k hd c L n nc) p)) → remR h1 hk a → mstR hk h2 p L m → Q (some (.int (iI (p : Int)))) h2) : ab_X (d + 38) mX12_park 0 (lv_args 0 [.ref 200, .int (iI s), .int (iI k)]) [] h Q := by
  show ab_X (d + 38) mX12_park 0 [(0, .ref 200), (1, .int (iI s)), (2, .int (iI k))] [] h Q
  obtain ⟨v, ev⟩ : ∃ v, v = (mbf (gW (mfr h9 n) k hd c L n nc) (pU (mfr h9 n) L n)).1 := ⟨_, rfl⟩
  have hv : v = -1 ∨ ∃ p ∈ pU (mfr h9 n) L n, v = (p : Int) := by rw [ev]; exact mbf_in _ _
  have hvR : inR v := by
    rcases hv with q | ⟨p, hp, q⟩
    · rw [q]; decide
    · have := List.mem_range.mp (List.mem_filter.mp hp).1
      omega
  refine ab_aload_n (k := 0) dX12_park_0 rfl rfl ?_
  refine ab_iload_n (k := 1) dX12_park_1 rfl rfl ?_
  refine ab_iload_n (k := 2) dX12_park_2 rfl rfl ?_
  refine ab_callV (As := [.int (iI s), .int (iI k)]) (rest := []) dX12_park_3 lX12_351 rfl (Nat.le_of_ble_eq_true rfl) (Nat.le_of_ble_eq_true rfl) rfl ?_
  refine c_mwhere (nc := nc) (c := c) (hd := hd) e9 hs0 hk0 hn hn2 hN hL hhd hhd2 hR hnc hrow (fun g9 => ?_) (fun g9 j9 D9 B9 => ?_)
  · skip
    show ab_X (d + 38) mX12_park 6 [(0, .ref 200), (1, .int (iI s)), (2, .int (iI k))] [.int (iI (-1))] h9 _
    refine ab_istore_n (ls' := [(3, .int (iI (-1))), (0, .ref 200), (1, .int (iI s)), (2, .int (iI k))]) dX12_park_6 rfl (by decide) rfl ?_
    refine ab_iload_n (k := 0) dX12_park_7 rfl rfl ?_
    refine z_iconst dX12_park_8 ?_
    refine z_icmp_ne (tgt := 14) dX12_park_9 (by decide) (by decide) (by decide) (fun c9 => absurd c9 (by decide)) (fun _ => ?_)
    refine z_iconst dX12_park_12 ?_
    refine z_iret dX12_park_13 rfl ?_
    first | exact k0 g9 | exact k1 g9 j9 D9 B9 (by omega)
  · skip
    rw [← ev]
    show ab_X (d + 38) mX12_park 6 [(0, .ref 200), (1, .int (iI s)), (2, .int (iI k))] [.int (iI v)] j9 _
    refine ab_istore_n (ls' := [(3, .int (iI v)), (0, .ref 200), (1, .int (iI s)), (2, .int (iI k))]) dX12_park_6 rfl (by decide) rfl ?_
    refine ab_iload_n (k := 0) dX12_park_7 rfl rfl ?_
    refine z_iconst dX12_park_8 ?_
    refine z_icmp_ne (tgt := 14) dX12_park_9 (by decide) (by omega) (by decide) (fun c9 => ?_) (fun c9 => ?_)
    · skip
      refine ab_sub (ls' := [(0, .ref 200), (1, .int (iI s)), (3, .int (iI v))]) (ks := [1, 2, 0]) rfl ?_
      obtain ⟨p, hp, rfl⟩ : ∃ p : Nat, p ∈ pU (mfr h9 n) L n ∧ v = (p : Int) := by
        rcases hv with q | ⟨p, hp, q⟩
        · omega
        · exact ⟨p, hp, q⟩
      obtain ⟨m, rfl⟩ : ∃ m : Nat, s = m := ⟨s.toNat, by omega⟩
      have hLq := hL (by omega)
      rw [Int.toNat_natCast] at hLq
      have hpL : p + L ≤ n := by
        have := (mfr_iff.mp (allf_iff.mp (List.mem_filter.mp hp).2 (p + L - 1) (by omega) (by omega))).1
        omega
      refine ab_aload_n (k := 0) dX12_park_14 rfl rfl ?_
      refine ab_callV (As := []) (rest := []) dX12_park_15 lX12_354 rfl (Nat.le_of_ble_eq_true rfl) (Nat.le_of_ble_eq_true rfl) rfl ?_
      refine c_remember (a := a) ((D9.2.1 37 (by decide) (by decide)).trans ha) ha2 (fun hk2 hrem => ?_)
      show ab_X (d + 38) mX12_park 18 [(0, .ref 200), (1, .int (iI (m : Int))), (3, .int (iI (p : Int)))] [] hk2 _
      refine ab_aload_n (k := 0) dX12_park_18 rfl rfl ?_
      refine ab_iload_n (k := 1) dX12_park_19 rfl rfl ?_
      refine ab_iload_n (k := 2) dX12_park_20 rfl rfl ?_
      refine ab_callV (As := [.int (iI (m : Int)), .int (iI (p : Int))]) (rest := []) dX12_park_21 lX12_329 rfl (Nat.le_of_ble_eq_true rfl) (Nat.le_of_ble_eq_true rfl) rfl ?_
      refine c_mstand (L := L) (by omega) ((hrem.1.1 207 _ (by decide)).trans ((D9.1 207 _ (by decide) (by decide)).trans hLq.1)) hLq.2.2 (by omega) (by omega) (fun h2 hm2 => ?_)
      show ab_X (d + 38) mX12_park 24 [(0, .ref 200), (1, .int (iI (m : Int))), (3, .int (iI (p : Int)))] [] h2 _
      refine ab_iload_n (k := 2) dX12_park_24 rfl rfl ?_
      refine z_iret dX12_park_25 rfl ?_
      exact k2 g9 m p j9 hk2 h2 rfl ev.symm hp D9 B9 hrem hm2
    · skip
      refine z_iconst dX12_park_12 ?_
      refine z_iret dX12_park_13 rfl ?_
      first | exact k0 g9 | exact k1 g9 j9 D9 B9 (by omega)
