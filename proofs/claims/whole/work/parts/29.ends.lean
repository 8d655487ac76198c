/-! CONTRACTS OF THE CLASS: means, ends, bays, gaps told; of the model: ends, gaps -/
def cfr (h : ab_H) (n y : Nat) : Bool := decide (y < n ∧ zv h 18 y = 0 ∧ zv h 37 y = -1)
theorem cfr_iff {h : ab_H} {n y : Nat} : cfr h n y = true ↔ y < n ∧ zv h 18 y = 0 ∧ zv h 37 y = -1 := by unfold cfr; exact decide_eq_true_iff
theorem cfr_end {h : ab_H} {n y : Nat} (hy : n ≤ y) : ¬ cfr h n y = true := fun q => absurd (cfr_iff.mp q).1 (by omega)
theorem cfr_frm {h : ab_H} {n y : Nat} (hy : y < n) : frm h 36 (-1) y = cfr h n y := by
  refine Bool.eq_iff_iff.mpr ?_
  rw [frm_iff, cfr_iff]
  exact ⟨fun q => ⟨hy, q.1, q.2.1⟩, fun q => ⟨q.2.1, q.2.2, by omega⟩⟩
theorem scan_cfr (h : ab_H) (n : Nat) : scan (frm h 36 (-1)) n = scan (cfr h n) n := scan_congr (fun _ hy => cfr_frm hy)
theorem pls_cfr (h : ab_H) (L n : Nat) : pls (frm h 36 (-1)) L n = pls (cfr h n) L n := pls_congr (fun _ hy => cfr_frm hy)
theorem allf_cfr {h : ab_H} {n L p : Nat} (hL : 1 ≤ L) : allf (cfr h n) L p = true ↔ p + L ≤ n ∧ allf (frm h 36 (-1)) L p = true := by
  rw [allf_iff, allf_iff]
  constructor
  · intro q
    have h1 := (cfr_iff.mp (q (p + L - 1) (by omega) (by omega))).1
    exact ⟨by omega, fun j a b => by rw [cfr_frm (n := n) (by omega)]; exact q j a b⟩
  · intro q j a b
    rw [← cfr_frm (n := n) (by omega)]; exact q.2 j a b
theorem c_lookC {d : Nat} {h : ab_H} {Q : ab_Q} {n : Nat} (hn : zv h 15 0 = n) (hn2 : n ≤ 20) (K : ∀ h', sm [167, 168, 169] h h' → GR h' (scan (cfr h n) n) → Q none h') : ab_X (d + 3) mX11_lookAtGaps 0 (lv_args 0 [.ref 0]) [] h Q := c_look hn hn2 (fun h1 a b => K h1 a (by rw [← scan_cfr]; exact b))
theorem c_standC {d : Nat} {h : ab_H} {Q : ab_Q} {n l : Nat} {s : Int} (hn : zv h 15 0 = n) (hn2 : n ≤ 20) (hl : 1 ≤ l ∧ l ≤ 9) (hs : inR s) (k1 : 0 ≤ s → allf (cfr h n) l s.toNat = true → Q (some (.int (iI 1))) h) (k0 : ¬ (0 ≤ s ∧ allf (cfr h n) l s.toNat = true) → Q (some (.int (iI 0))) h) : ab_X (d + 2) mX11_canStand 0 (lv_args 0 [.ref 0, .int (iI s), .int (iI (l : Int))]) [] h Q :=
  c_canStand hn hn2 hl.2 hs (fun a b c => k1 a ((allf_cfr hl.1).mpr ⟨b, c⟩)) (fun q => k0 (fun z => q ⟨z.1, (allf_cfr hl.1).mp z.2⟩))
/-- the sizes of the gaps in the heap -/
theorem GR_sum {h : ab_H} {fr : Nat → Bool} {n : Nat} {F : Nat → Int} (hF : F 0 = 0) (hn : n ≤ 20) (hf : ¬ fr n = true) (hG : GR h (scan fr n)) : sT (fun i => F (zv h 169 i).toNat) (scan fr n).1 = sT (fun y => F (gAt fr y)) n := by
  rw [← gsum hF hn hf]
  exact sT_congr (fun i hi => by rw [(hG.2 i hi).2, Int.toNat_natCast])
theorem GR_max {h : ab_H} {fr : Nat → Bool} {n : Nat} (hn : n ≤ 20) (hf : ¬ fr n = true) (hG : GR h (scan fr n)) : mT (zv h 169) 0 (scan fr n).1 = fT (fun (x : Int) k => max x (k : Int)) 0 (gAt fr) n := by
  have e : mT (zv h 169) 0 (scan fr n).1 = mT (fun i => (((scan fr n).2.2 i : Nat) : Int)) 0 (scan fr n).1 := mT_congr (fun i hi => (hG.2 i hi).2)
  rw [e, mT_fT (F := fun k => (k : Int))]
  have key : ∀ (f : Nat → Nat) m, 0 ≤ fT (fun (x : Int) k => max x (k : Int)) 0 f m := by
    intro f m
    induction m with
    | zero => exact Int.le_refl 0
    | succ m ih => rw [fT_s]; omega
  -- over non-negative numbers
  have e2 : ∀ (f : Nat → Nat) m, fT (fun (x : Int) k => max x (k : Int)) 0 f m = fT (fun (x : Int) k => if k = 0 then x else max x (k : Int)) 0 f m := by
    intro f m
    induction m with
    | zero => rfl
    | succ m ih =>
      have hk := key f m
      rw [fT_s, fT_s, ← ih]
      by_cases z : f m = 0
      · rw [if_pos z, z]; omega
      · rw [if_neg z]
  rw [e2, e2]
  exact gat_all (op := fun (x : Int) k => if k = 0 then x else max x (k : Int)) (fun x => if_pos rfl) hn hf
theorem lp_bays {d : Nat} {Q : ab_Q} {h0 : ab_H} {n L b tot : Nat} {s : Int} (hn : zv h0 15 0 = n) (hn2 : n ≤ 20) (hL2 : 1 ≤ L ∧ L ≤ 9) (hb : 1 ≤ b ∧ b ≤ 9) (K : Q (some (.int (iI (tot : Int)))) h0) : ∀ (nn : Nat) (k : Nat) (p : Nat) (a : Nat) (h : ab_H), k = nn → (h = h0) → (n < p + k) → (p ≤ 40) → (a ≤ p) → (a + bay (cfr h0 n) L b n k p = tot) → ab_X (d + 3) mX11_bays 46 [(0, .ref 0), (1, .int (iI s)), (2, .int (iI (b : Int))), (3, .int (iI (L : Int))), (4, .int (iI (a : Int))), (5, .int (iI (p : Int)))] [] h Q := by
  intro nn
  induction nn using Nat.strongRecOn with
  | ind nn ih =>
  intro k p a h hnn hh h2 hp ha ht
  subst hh
  refine ab_iload (k := 5) dX11_bays_46 rfl ?_
  refine ab_aload_n (k := 0) dX11_bays_48 rfl rfl ?_
  refine z_getP (b := 15) dX11_bays_49 fX11_35 rfl rfl rfl ?_
  refine z_getI dX11_bays_52 fX11_286 rfl (Or.inl rfl) ?_
  refine z_is (y := (n : Int)) hn ?_
  refine z_icmp_ge (tgt := 80) dX11_bays_55 (by decide) (by omega) (by omega) (fun c55 => ?_) (fun c55 => ?_)
  · skip
    refine ab_iload (k := 4) dX11_bays_80 rfl ?_
    refine z_iret dX11_bays_82 rfl ?_
    rw [bay_out (by omega)] at ht
    have e : a = tot := by omega
    rw [e]
    exact K
  · skip
    refine ab_aload_n (k := 0) dX11_bays_58 rfl rfl ?_
    refine ab_iload (k := 5) dX11_bays_59 rfl ?_
    refine ab_iload_n (k := 3) dX11_bays_61 rfl rfl ?_
    refine ab_callV (As := [.int (iI (p : Int)), .int (iI (L : Int))]) (rest := []) dX11_bays_62 lX11_207 rfl (Nat.le_of_ble_eq_true rfl) (Nat.le_of_ble_eq_true rfl) rfl ?_
    refine c_standC hn hn2 (by omega) (by omega) (fun z62 g62 => ?_) (fun g62 => ?_)
    · skip
      try simp only [Int.toNat_natCast] at g62
      have gL := g62
      show ab_X (d + 3) mX11_bays 65 [(0, .ref 0), (1, .int (iI s)), (2, .int (iI (b : Int))), (3, .int (iI (L : Int))), (4, .int (iI (a : Int))), (5, .int (iI (p : Int)))] [.int (iI 1)] h _
      refine z_if_eq (tgt := 71) dX11_bays_65 (by decide) (by decide) (fun c65 => absurd c65 (by decide)) (fun _ => ?_)
      refine z_iinc (k := 4) (v := (a : Int) + 1) (ls' := [(4, .int (iI ((a : Int) + 1))), (0, .ref 0), (1, .int (iI s)), (2, .int (iI (b : Int))), (3, .int (iI (L : Int))), (5, .int (iI (p : Int)))]) dX11_bays_68 rfl rfl (by decide) rfl ?_
      refine ab_iload (k := 5) dX11_bays_71 rfl ?_
      refine ab_iload_n (k := 3) dX11_bays_73 rfl rfl ?_
      refine z_iadd dX11_bays_74 ?_
      refine ab_istore (ls' := [(5, .int (iI ((p : Int) + (b : Int)))), (4, .int (iI ((a : Int) + 1))), (0, .ref 0), (1, .int (iI s)), (2, .int (iI (b : Int))), (3, .int (iI (L : Int)))]) dX11_bays_75 (by decide) rfl ?_
      refine ab_goto (tgt := 46) dX11_bays_77 (by decide) ?_
      refine ab_sub (ls' := [(0, .ref 0), (1, .int (iI s)), (2, .int (iI (b : Int))), (3, .int (iI (L : Int))), (4, .int (iI ((a : Int) + 1))), (5, .int (iI ((p : Int) + (b : Int))))]) (ks := [2, 3, 4, 5, 1, 0]) rfl ?_
      obtain ⟨k, rfl⟩ : ∃ z, k = z + 1 := ⟨k - 1, by omega⟩
      rw [bay_s (by omega)] at ht
      first | (rw [if_pos gL] at ht; exact ih _ (by omega) k (p + b) (a + 1) h rfl rfl (by omega) (by omega) (by omega) (by omega)) | (rw [if_neg (fun z => gL ⟨by omega, z⟩)] at ht; exact ih _ (by omega) k (p + b) a h rfl rfl (by omega) (by omega) (by omega) (by omega))
    · skip
      try simp only [Int.toNat_natCast] at g62
      have gL := g62
      show ab_X (d + 3) mX11_bays 65 [(0, .ref 0), (1, .int (iI s)), (2, .int (iI (b : Int))), (3, .int (iI (L : Int))), (4, .int (iI (a : Int))), (5, .int (iI (p : Int)))] [.int (iI 0)] h _
      refine z_if_eq (tgt := 71) dX11_bays_65 (by decide) (by decide) (fun _ => ?_) (fun c65 => absurd c65 (by decide))
      refine ab_iload (k := 5) dX11_bays_71 rfl ?_
      refine ab_iload_n (k := 2) dX11_bays_73 rfl rfl ?_
      refine z_iadd dX11_bays_74 ?_
      refine ab_istore (ls' := [(5, .int (iI ((p : Int) + (b : Int)))), (0, .ref 0), (1, .int (iI s)), (2, .int (iI (b : Int))), (3, .int (iI (L : Int))), (4, .int (iI (a : Int)))]) dX11_bays_75 (by decide) rfl ?_
      refine ab_goto (tgt := 46) dX11_bays_77 (by decide) ?_
      refine ab_sub (ls' := [(0, .ref 0), (1, .int (iI s)), (2, .int (iI (b : Int))), (3, .int (iI (L : Int))), (4, .int (iI (a : Int))), (5, .int (iI ((p : Int) + (b : Int))))]) (ks := [1, 2, 3, 4, 5, 0]) rfl ?_
      obtain ⟨k, rfl⟩ : ∃ z, k = z + 1 := ⟨k - 1, by omega⟩
      rw [bay_s (by omega)] at ht
      first | (rw [if_pos gL] at ht; exact ih _ (by omega) k (p + b) (a + 1) h rfl rfl (by omega) (by omega) (by omega) (by omega)) | (rw [if_neg (fun z => gL ⟨by omega, z⟩)] at ht; exact ih _ (by omega) k (p + b) a h rfl rfl (by omega) (by omega) (by omega) (by omega))
theorem c_bays0 {d : Nat} {h : ab_H} {Q : ab_Q} {s : Int} {n L b : Nat} (hs : inR s) (hn : zv h 15 0 = n) (hn2 : n ≤ 20) (hN : zv h 15 3 ≤ 4) (hL : 0 ≤ s ∧ s < zv h 15 3 → zv h 16 s.toNat = L ∧ 1 ≤ L ∧ L ≤ 9) (hv : 0 ≤ s ∧ s < zv h 15 3) (hb : 1 ≤ b ∧ b ≤ 9) (K : L ≤ b → Q (some (.int (iI (bay (cfr h n) L b n 21 0 : Int)))) h) (K0 : ¬ L ≤ b → Q (some (.int (iI 0))) h) : ab_X (d + 3) mX11_bays 0 (lv_args 0 [.ref 0, .int (iI s), .int (iI (b : Int))]) [] h Q := by
  show ab_X (d + 3) mX11_bays 0 [(0, .ref 0), (1, .int (iI s)), (2, .int (iI (b : Int)))] [] h Q
  refine ab_aload_n (k := 0) dX11_bays_0 rfl rfl ?_
  refine z_getP (b := 15) dX11_bays_1 fX11_35 rfl rfl rfl ?_
  refine ab_iload_n (k := 1) dX11_bays_4 rfl rfl ?_
  refine ab_callV (As := [.int (iI s)]) (rest := []) dX11_bays_5 lX11_171 rfl (Nat.le_of_ble_eq_true rfl) (Nat.le_of_ble_eq_true rfl) rfl ?_
  refine c_hasSort (by omega) (fun g5 => ?_) (fun g5 => ?_)
  · skip
    try simp only [Int.toNat_natCast] at g5
    have gL := g5
    show ab_X (d + 3) mX11_bays 8 [(0, .ref 0), (1, .int (iI s)), (2, .int (iI (b : Int)))] [.int (iI 1)] h _
    refine z_if_eq (tgt := 22) dX11_bays_8 (by decide) (by decide) (fun c8 => absurd c8 (by decide)) (fun _ => ?_)
    refine ab_iload_n (k := 2) dX11_bays_11 rfl rfl ?_
    refine z_iconst dX11_bays_12 ?_
    refine z_icmp_lt (tgt := 22) dX11_bays_13 (by decide) (by omega) (by decide) (fun c13 => ?_) (fun c13 => ?_)
    · skip
      refine z_iconst dX11_bays_22 ?_
      refine z_iret dX11_bays_23 rfl ?_
      first | exact K0 (by omega) | exact lp_bays hn hn2 hLb hb (K (by omega)) _ 21 0 0 h rfl rfl (by omega) (by omega) (by omega) (by omega) | omega
    · skip
      refine ab_iload_n (k := 2) dX11_bays_16 rfl rfl ?_
      refine z_bipush dX11_bays_17 (by decide) ?_
      refine z_icmp_le (tgt := 24) dX11_bays_19 (by decide) (by omega) (by decide) (fun c19 => ?_) (fun c19 => ?_)
      · skip
        refine ab_aload_n (k := 0) dX11_bays_24 rfl rfl ?_
        refine z_getP (b := 15) dX11_bays_25 fX11_35 rfl rfl rfl ?_
        refine ab_iload_n (k := 1) dX11_bays_28 rfl rfl ?_
        refine ab_callV (As := [.int (iI s)]) (rest := []) dX11_bays_29 lX11_174 rfl (Nat.le_of_ble_eq_true rfl) (Nat.le_of_ble_eq_true rfl) rfl ?_
        refine c_lengthOf (by omega) (by omega) (fun _ => ?_) (fun q => absurd (show _ from ⟨by omega, by omega⟩) q)
        show ab_X (d + 3) mX11_bays 32 [(0, .ref 0), (1, .int (iI s)), (2, .int (iI (b : Int)))] [.int (iI (zv h 16 s.toNat))] h _
        refine z_is (y := (L : Int)) (hL (by omega)).1 ?_
        have hLb := (hL (by omega)).2
        refine ab_istore_n (ls' := [(3, .int (iI (L : Int))), (0, .ref 0), (1, .int (iI s)), (2, .int (iI (b : Int)))]) dX11_bays_32 rfl (by decide) rfl ?_
        refine ab_iload_n (k := 3) dX11_bays_33 rfl rfl ?_
        refine ab_iload_n (k := 0) dX11_bays_34 rfl rfl ?_
        refine z_icmp_ge (tgt := 40) dX11_bays_35 (by decide) (by omega) (by omega) (fun c35 => ?_) (fun c35 => ?_)
        · skip
          refine z_iconst dX11_bays_40 ?_
          refine ab_istore (ls' := [(4, .int (iI 0)), (3, .int (iI (L : Int))), (0, .ref 0), (1, .int (iI s)), (2, .int (iI (b : Int)))]) dX11_bays_41 (by decide) rfl ?_
          refine z_iconst dX11_bays_43 ?_
          refine ab_istore (ls' := [(5, .int (iI 0)), (4, .int (iI 0)), (3, .int (iI (L : Int))), (0, .ref 0), (1, .int (iI s)), (2, .int (iI (b : Int)))]) dX11_bays_44 (by decide) rfl ?_
          refine ab_sub (ls' := [(0, .ref 0), (1, .int (iI s)), (2, .int (iI (b : Int))), (3, .int (iI (L : Int))), (4, .int (iI 0)), (5, .int (iI 0))]) (ks := [3, 4, 5, 2, 1, 0]) rfl ?_
          first | exact K0 (by omega) | exact lp_bays hn hn2 hLb hb (K (by omega)) _ 21 0 0 h rfl rfl (by omega) (by omega) (by omega) (by omega) | omega
        · skip
          refine z_iconst dX11_bays_38 ?_
          refine z_iret dX11_bays_39 rfl ?_
          first | exact K0 (by omega) | exact lp_bays hn hn2 hLb hb (K (by omega)) _ 21 0 0 h rfl rfl (by omega) (by omega) (by omega) (by omega) | omega
      · skip
        refine z_iconst dX11_bays_22 ?_
        refine z_iret dX11_bays_23 rfl ?_
        first | exact K0 (by omega) | exact lp_bays hn hn2 hLb hb (K (by omega)) _ 21 0 0 h rfl rfl (by omega) (by omega) (by omega) (by omega) | omega
  · skip
    try simp only [Int.toNat_natCast] at g5
    have gL := g5
    show ab_X (d + 3) mX11_bays 8 [(0, .ref 0), (1, .int (iI s)), (2, .int (iI (b : Int)))] [.int (iI 0)] h _
    refine z_if_eq (tgt := 22) dX11_bays_8 (by decide) (by decide) (fun _ => ?_) (fun c8 => absurd c8 (by decide))
    refine z_iconst dX11_bays_22 ?_
    refine z_iret dX11_bays_23 rfl ?_
    first | exact K0 (by omega) | exact lp_bays hn hn2 hLb hb (K (by omega)) _ 21 0 0 h rfl rfl (by omega) (by omega) (by omega) (by omega) | omega
theorem c_bays_ {d : Nat} {h : ab_H} {Q : ab_Q} {s b : Int} (hs : inR s) (hb : inR b) (hno : ¬ ((0 ≤ s ∧ s < zv h 15 3) ∧ 1 ≤ b ∧ b ≤ 9)) (K : Q (some (.int (iI (-1)))) h) : ab_X (d + 3) mX11_bays 0 (lv_args 0 [.ref 0, .int (iI s), .int (iI b)]) [] h Q := by
  show ab_X (d + 3) mX11_bays 0 [(0, .ref 0), (1, .int (iI s)), (2, .int (iI b))] [] h Q
  refine ab_aload_n (k := 0) dX11_bays_0 rfl rfl ?_
  refine z_getP (b := 15) dX11_bays_1 fX11_35 rfl rfl rfl ?_
  refine ab_iload_n (k := 1) dX11_bays_4 rfl rfl ?_
  refine ab_callV (As := [.int (iI s)]) (rest := []) dX11_bays_5 lX11_171 rfl (Nat.le_of_ble_eq_true rfl) (Nat.le_of_ble_eq_true rfl) rfl ?_
  refine c_hasSort (by omega) (fun g5 => ?_) (fun g5 => ?_)
  · skip
    try simp only [Int.toNat_natCast] at g5
    have gL := g5
    show ab_X (d + 3) mX11_bays 8 [(0, .ref 0), (1, .int (iI s)), (2, .int (iI b))] [.int (iI 1)] h _
    refine z_if_eq (tgt := 22) dX11_bays_8 (by decide) (by decide) (fun c8 => absurd c8 (by decide)) (fun _ => ?_)
    refine ab_iload_n (k := 2) dX11_bays_11 rfl rfl ?_
    refine z_iconst dX11_bays_12 ?_
    refine z_icmp_lt (tgt := 22) dX11_bays_13 (by decide) (by omega) (by decide) (fun c13 => ?_) (fun c13 => ?_)
    · skip
      refine z_iconst dX11_bays_22 ?_
      refine z_iret dX11_bays_23 rfl ?_
      first | exact K | exact absurd hno (by omega)
    · skip
      refine ab_iload_n (k := 2) dX11_bays_16 rfl rfl ?_
      refine z_bipush dX11_bays_17 (by decide) ?_
      refine z_icmp_le (tgt := 24) dX11_bays_19 (by decide) (by omega) (by decide) (fun c19 => ?_) (fun c19 => ?_)
      · skip
        refine ab_sub (ls' := [(0, .ref 0), (1, .int (iI s)), (2, .int (iI b))]) (ks := [0, 1, 2]) rfl ?_
        first | exact K | exact absurd hno (by omega)
      · skip
        refine z_iconst dX11_bays_22 ?_
        refine z_iret dX11_bays_23 rfl ?_
        first | exact K | exact absurd hno (by omega)
  · skip
    try simp only [Int.toNat_natCast] at g5
    have gL := g5
    show ab_X (d + 3) mX11_bays 8 [(0, .ref 0), (1, .int (iI s)), (2, .int (iI b))] [.int (iI 0)] h _
    refine z_if_eq (tgt := 22) dX11_bays_8 (by decide) (by decide) (fun _ => ?_) (fun c8 => absurd c8 (by decide))
    refine z_iconst dX11_bays_22 ?_
    refine z_iret dX11_bays_23 rfl ?_
    first | exact K | exact absurd hno (by omega)
theorem gOK_171 {h h' : ab_H} {g : Nat} (hs : sm [171] h h') (hg : gOK h g) : gOK h' g := ⟨(hs.1 167 2 (by decide)).trans hg.1, hg.2.1, fun i hi => by rw [hs.1 169 i (by decide), hs.1 168 i (by decide)]; exact hg.2.2 i hi⟩
theorem mTb_0 {l : Nat} {ob : Int} (hl : 1 ≤ l) : mTb l ob 21 0 = 0 := by
  have key : ∀ n, mTb l ob (n + 1) 0 = 0 := by
    intro n
    induction n with
    | zero => rw [mTb_n]; unfold mNext; rw [if_pos (by omega)]
    | succ n ih => rw [mTb_o (by omega)]; exact ih
  exact key 20
theorem fTb_0 {l : Nat} (hl : 1 ≤ l) : fTb l 21 0 = 0 := by have := fTb_b hl 21 0 (by omega) (by omega); omega
theorem c_mean0 {d : Nat} {h : ab_H} {Q : ab_Q} {s : Int} {n L : Nat} (hs : inR s) (hn : zv h 15 0 = n) (hn2 : n ≤ 20) (hN : zv h 15 3 ≤ 4) (hL : 0 ≤ s ∧ s < zv h 15 3 → zv h 16 s.toNat = L ∧ 1 ≤ L ∧ L ≤ 9) (hv : 0 ≤ s ∧ s < zv h 15 3) (ho : 0 ≤ zv h 15 1 ∧ zv h 15 1 ≤ 100) (K : ∀ h2, sm [167, 168, 169, 171] h h2 → Q (some (.long (lL (sT (fun y => mTb L 0 21 (gAt (cfr h n) y)) n)))) h2) : ab_X (d + 4) mX11_mean 0 (lv_args 0 [.ref 0, .int (iI s), .int (iI 0)]) [] h Q := by
  show ab_X (d + 4) mX11_mean 0 [(0, .ref 0), (1, .int (iI s)), (2, .int (iI 0))] [] h Q
  refine ab_aload_n (k := 0) dX11_mean_0 rfl rfl ?_
  refine z_getP (b := 15) dX11_mean_1 fX11_35 rfl rfl rfl ?_
  refine ab_iload_n (k := 1) dX11_mean_4 rfl rfl ?_
  refine ab_callV (As := [.int (iI s)]) (rest := []) dX11_mean_5 lX11_171 rfl (Nat.le_of_ble_eq_true rfl) (Nat.le_of_ble_eq_true rfl) rfl ?_
  refine c_hasSort (by omega) (fun g5 => ?_) (fun g5 => ?_)
  · skip
    try simp only [Int.toNat_natCast] at g5
    have gL := g5
    show ab_X (d + 4) mX11_mean 8 [(0, .ref 0), (1, .int (iI s)), (2, .int (iI 0))] [.int (iI 1)] h _
    refine z_if_ne (tgt := 15) dX11_mean_8 (by decide) (by decide) (fun _ => ?_) (fun c8 => absurd c8 (by decide))
    refine ab_aload_n (k := 0) dX11_mean_15 rfl rfl ?_
    refine ab_callV (As := []) (rest := []) dX11_mean_16 lX11_187 rfl (Nat.le_of_ble_eq_true rfl) (Nat.le_of_ble_eq_true rfl) rfl ?_
    refine c_lookC hn hn2 (fun h1 hs1 hG1 => ?_)
    have e150 : zv h1 15 0 = zv h 15 0 := hs1.1 15 0 (by decide)
    have e153 : zv h1 15 3 = zv h 15 3 := hs1.1 15 3 (by decide)
    show ab_X (d + 4) mX11_mean 19 [(0, .ref 0), (1, .int (iI s)), (2, .int (iI 0))] [] h1 _
    refine ab_aload_n (k := 0) dX11_mean_19 rfl rfl ?_
    refine z_getP (b := 170) dX11_mean_20 fX11_80 rfl rfl rfl ?_
    refine ab_aload_n (k := 0) dX11_mean_23 rfl rfl ?_
    refine z_getP (b := 15) dX11_mean_24 fX11_35 rfl rfl rfl ?_
    refine ab_iload_n (k := 1) dX11_mean_27 rfl rfl ?_
    refine ab_callV (As := [.int (iI s)]) (rest := [.ref 170]) dX11_mean_28 lX11_174 rfl (Nat.le_of_ble_eq_true rfl) (Nat.le_of_ble_eq_true rfl) rfl ?_
    refine c_lengthOf (by omega) (by omega) (fun _ => ?_) (fun q => absurd (show _ from ⟨by omega, by omega⟩) q)
    show ab_X (d + 4) mX11_mean 31 [(0, .ref 0), (1, .int (iI s)), (2, .int (iI 0))] [.int (iI (zv h1 16 s.toNat)), .ref 170] h1 _
    refine z_is (y := (L : Int)) ((hs1.1 16 _ (by decide)).trans (hL (by omega)).1) ?_
    have hLb := (hL (by omega)).2
    refine ab_iload_n (k := 2) dX11_mean_31 rfl rfl ?_
    refine z_if_eq (tgt := 45) dX11_mean_32 (by decide) (by decide) (fun _ => ?_) (fun c32 => absurd c32 (by decide))
    refine z_iconst dX11_mean_45 ?_
    refine ab_callV (As := [.int (iI (L : Int)), .int (iI 0)]) (rest := []) dX11_mean_46 lX11_261 rfl (Nat.le_of_ble_eq_true rfl) (Nat.le_of_ble_eq_true rfl) rfl ?_
    refine c_weighMeans (l := L) (by omega) (by omega) (by omega) (fun h2 hw2 => ?_)
    show ab_X (d + 4) mX11_mean 49 [(0, .ref 0), (1, .int (iI s)), (2, .int (iI 0))] [] h2 _
    refine ab_aload_n (k := 0) dX11_mean_49 rfl rfl ?_
    refine z_getP (b := 170) dX11_mean_50 fX11_80 rfl rfl rfl ?_
    refine ab_aload_n (k := 0) dX11_mean_53 rfl rfl ?_
    refine z_getP (b := 167) dX11_mean_54 fX11_73 rfl rfl rfl ?_
    refine ab_callV (As := [.ref 167]) (rest := []) dX11_mean_57 lX11_265 rfl (Nat.le_of_ble_eq_true rfl) (Nat.le_of_ble_eq_true rfl) rfl ?_
    refine c_meanOf (t := mTb L 0 21) (gOK_171 hw2.1 (GR_ok hn2 hG1)) (fun j hj => hw2.2 j (by omega)) ?_
    rw [show sT (fun i => mTb L 0 21 (zv h2 169 i).toNat) (scan (cfr h n) n).1 = sT (fun y => mTb L 0 21 (gAt (cfr h n) y)) n from (sT_congr (fun i _ => by rw [hw2.1.1 169 i (by decide)])).trans (GR_sum (mTb_0 (by omega)) hn2 (cfr_end (Nat.le_refl n)) hG1)]
    show ab_X (d + 4) mX11_mean 60 [(0, .ref 0), (1, .int (iI s)), (2, .int (iI 0))] [.long (lL (sT (fun y => mTb L 0 21 (gAt (cfr h n) y)) n))] h2 _
    refine z_lret dX11_mean_60 rfl ?_
    first | exact K h2 ((hs1.mono (by decide)).trans (hw2.1.mono (by decide))) | exact absurd gL (by omega)
  · skip
    try simp only [Int.toNat_natCast] at g5
    have gL := g5
    show ab_X (d + 4) mX11_mean 8 [(0, .ref 0), (1, .int (iI s)), (2, .int (iI 0))] [.int (iI 0)] h _
    refine z_if_ne (tgt := 15) dX11_mean_8 (by decide) (by decide) (fun c8 => absurd c8 (by decide)) (fun _ => ?_)
    refine z_ldc2 (v := (-1)) dX11_mean_11 qX11_259 (by decide) ?_
    refine z_lret dX11_mean_14 rfl ?_
    first | exact K h2 ((hs1.mono (by decide)).trans (hw2.1.mono (by decide))) | exact absurd gL (by omega)
theorem c_mean1 {d : Nat} {h : ab_H} {Q : ab_Q} {s : Int} {n L : Nat} (hs : inR s) (hn : zv h 15 0 = n) (hn2 : n ≤ 20) (hN : zv h 15 3 ≤ 4) (hL : 0 ≤ s ∧ s < zv h 15 3 → zv h 16 s.toNat = L ∧ 1 ≤ L ∧ L ≤ 9) (hv : 0 ≤ s ∧ s < zv h 15 3) (ho : 0 ≤ zv h 15 1 ∧ zv h 15 1 ≤ 100) (K : ∀ h2, sm [167, 168, 169, 171] h h2 → Q (some (.long (lL (sT (fun y => mTb L (zv h 15 1) 21 (gAt (cfr h n) y)) n)))) h2) : ab_X (d + 4) mX11_mean 0 (lv_args 0 [.ref 0, .int (iI s), .int (iI 1)]) [] h Q := by
  show ab_X (d + 4) mX11_mean 0 [(0, .ref 0), (1, .int (iI s)), (2, .int (iI 1))] [] h Q
  refine ab_aload_n (k := 0) dX11_mean_0 rfl rfl ?_
  refine z_getP (b := 15) dX11_mean_1 fX11_35 rfl rfl rfl ?_
  refine ab_iload_n (k := 1) dX11_mean_4 rfl rfl ?_
  refine ab_callV (As := [.int (iI s)]) (rest := []) dX11_mean_5 lX11_171 rfl (Nat.le_of_ble_eq_true rfl) (Nat.le_of_ble_eq_true rfl) rfl ?_
  refine c_hasSort (by omega) (fun g5 => ?_) (fun g5 => ?_)
  · skip
    try simp only [Int.toNat_natCast] at g5
    have gL := g5
    show ab_X (d + 4) mX11_mean 8 [(0, .ref 0), (1, .int (iI s)), (2, .int (iI 1))] [.int (iI 1)] h _
    refine z_if_ne (tgt := 15) dX11_mean_8 (by decide) (by decide) (fun _ => ?_) (fun c8 => absurd c8 (by decide))
    refine ab_aload_n (k := 0) dX11_mean_15 rfl rfl ?_
    refine ab_callV (As := []) (rest := []) dX11_mean_16 lX11_187 rfl (Nat.le_of_ble_eq_true rfl) (Nat.le_of_ble_eq_true rfl) rfl ?_
    refine c_lookC hn hn2 (fun h1 hs1 hG1 => ?_)
    have e150 : zv h1 15 0 = zv h 15 0 := hs1.1 15 0 (by decide)
    have e153 : zv h1 15 3 = zv h 15 3 := hs1.1 15 3 (by decide)
    show ab_X (d + 4) mX11_mean 19 [(0, .ref 0), (1, .int (iI s)), (2, .int (iI 1))] [] h1 _
    refine ab_aload_n (k := 0) dX11_mean_19 rfl rfl ?_
    refine z_getP (b := 170) dX11_mean_20 fX11_80 rfl rfl rfl ?_
    refine ab_aload_n (k := 0) dX11_mean_23 rfl rfl ?_
    refine z_getP (b := 15) dX11_mean_24 fX11_35 rfl rfl rfl ?_
    refine ab_iload_n (k := 1) dX11_mean_27 rfl rfl ?_
    refine ab_callV (As := [.int (iI s)]) (rest := [.ref 170]) dX11_mean_28 lX11_174 rfl (Nat.le_of_ble_eq_true rfl) (Nat.le_of_ble_eq_true rfl) rfl ?_
    refine c_lengthOf (by omega) (by omega) (fun _ => ?_) (fun q => absurd (show _ from ⟨by omega, by omega⟩) q)
    show ab_X (d + 4) mX11_mean 31 [(0, .ref 0), (1, .int (iI s)), (2, .int (iI 1))] [.int (iI (zv h1 16 s.toNat)), .ref 170] h1 _
    refine z_is (y := (L : Int)) ((hs1.1 16 _ (by decide)).trans (hL (by omega)).1) ?_
    have hLb := (hL (by omega)).2
    refine ab_iload_n (k := 2) dX11_mean_31 rfl rfl ?_
    refine z_if_eq (tgt := 45) dX11_mean_32 (by decide) (by decide) (fun c32 => absurd c32 (by decide)) (fun _ => ?_)
    refine ab_aload_n (k := 0) dX11_mean_35 rfl rfl ?_
    refine z_getP (b := 15) dX11_mean_36 fX11_35 rfl rfl rfl ?_
    refine z_getI dX11_mean_39 fX11_184 rfl (Or.inl rfl) ?_
    refine z_is (y := zv h 15 1) (hs1.1 15 1 (by decide)) ?_
    refine ab_goto (tgt := 46) dX11_mean_42 (by decide) ?_
    refine ab_callV (As := [.int (iI (L : Int)), .int (iI (zv h 15 1))]) (rest := []) dX11_mean_46 lX11_261 rfl (Nat.le_of_ble_eq_true rfl) (Nat.le_of_ble_eq_true rfl) rfl ?_
    refine c_weighMeans (l := L) (by omega) (by omega) (by omega) (fun h2 hw2 => ?_)
    show ab_X (d + 4) mX11_mean 49 [(0, .ref 0), (1, .int (iI s)), (2, .int (iI 1))] [] h2 _
    refine ab_aload_n (k := 0) dX11_mean_49 rfl rfl ?_
    refine z_getP (b := 170) dX11_mean_50 fX11_80 rfl rfl rfl ?_
    refine ab_aload_n (k := 0) dX11_mean_53 rfl rfl ?_
    refine z_getP (b := 167) dX11_mean_54 fX11_73 rfl rfl rfl ?_
    refine ab_callV (As := [.ref 167]) (rest := []) dX11_mean_57 lX11_265 rfl (Nat.le_of_ble_eq_true rfl) (Nat.le_of_ble_eq_true rfl) rfl ?_
    refine c_meanOf (t := mTb L (zv h 15 1) 21) (gOK_171 hw2.1 (GR_ok hn2 hG1)) (fun j hj => hw2.2 j (by omega)) ?_
    rw [show sT (fun i => mTb L (zv h 15 1) 21 (zv h2 169 i).toNat) (scan (cfr h n) n).1 = sT (fun y => mTb L (zv h 15 1) 21 (gAt (cfr h n) y)) n from (sT_congr (fun i _ => by rw [hw2.1.1 169 i (by decide)])).trans (GR_sum (mTb_0 (by omega)) hn2 (cfr_end (Nat.le_refl n)) hG1)]
    show ab_X (d + 4) mX11_mean 60 [(0, .ref 0), (1, .int (iI s)), (2, .int (iI 1))] [.long (lL (sT (fun y => mTb L (zv h 15 1) 21 (gAt (cfr h n) y)) n))] h2 _
    refine z_lret dX11_mean_60 rfl ?_
    first | exact K h2 ((hs1.mono (by decide)).trans (hw2.1.mono (by decide))) | exact absurd gL (by omega)
  · skip
    try simp only [Int.toNat_natCast] at g5
    have gL := g5
    show ab_X (d + 4) mX11_mean 8 [(0, .ref 0), (1, .int (iI s)), (2, .int (iI 1))] [.int (iI 0)] h _
    refine z_if_ne (tgt := 15) dX11_mean_8 (by decide) (by decide) (fun c8 => absurd c8 (by decide)) (fun _ => ?_)
    refine z_ldc2 (v := (-1)) dX11_mean_11 qX11_259 (by decide) ?_
    refine z_lret dX11_mean_14 rfl ?_
    first | exact K h2 ((hs1.mono (by decide)).trans (hw2.1.mono (by decide))) | exact absurd gL (by omega)
