/-! CALLS SIDE BY SIDE: hearse, came, last -/
def xg (h : ab_H) (y : Nat) : Bool := decide (¬ zv h 18 y = 0)
def xb (h : ab_H) (y : Nat) : Bool := decide (y < 20 ∧ zv h 37 y = (y : Int))
def xl (h : ab_H) (c : Nat) : Nat := (zv h 16 (zv h 38 c).toNat).toNat
theorem xb_i {h : ab_H} {y : Nat} : xb h y = true ↔ y < 20 ∧ zv h 37 y = (y : Int) := by unfold xb; exact decide_eq_true_iff
theorem xg_i {h : ab_H} {y : Nat} : xg h y = true ↔ ¬ zv h 18 y = 0 := by unfold xg; exact decide_eq_true_iff
theorem x_car {n k : Nat} {h h9 : ab_H} (J : RA n k h h9) {c : Nat} (hb : xb h c = true) : ∃ s : Nat, s < k ∧ zv h 38 c = s ∧ zv h 16 s = xl h c ∧ (1 ≤ xl h c ∧ xl h c ≤ 9) ∧ c + xl h c ≤ n ∧ ∀ j, j < 20 → ((c ≤ j ∧ j < c + xl h c) ↔ zv h 37 j = (c : Int)) ∧ ((c ≤ j ∧ j < c + xl h c) → zv h 18 j = 0) := by
  obtain ⟨hc, hb⟩ := xb_i.mp hb
  obtain ⟨s, L, x1, x2, x3, x4, x5, x6⟩ := J.2.2.2.2.2.1.2 c hc hb
  have x2' : zv h 38 c = s := x2
  have x3' : zv h 16 s = L := x3
  have eL : xl h c = L := by unfold xl; rw [x2', Int.toNat_natCast, x3', Int.toNat_natCast]
  have := (RA_L J x1).2
  rw [eL]
  exact ⟨s, x1, x2', x3', by omega, x5, fun j hj => ⟨(x6 j hj).1, fun q => ((x6 j hj).2 q).2⟩⟩
theorem x_cd {n k : Nat} {h h9 : ab_H} (J : RA n k h h9) : zv h 36 2 = ((cd (xb h) n : Nat) : Int) := by
  have hn := J.1.1
  have e : ∀ m, m ≤ 20 → cd (xb h) m = cB (zv h 37) m := by
    intro m
    induction m with
    | zero => intro _; rfl
    | succ m ih =>
      intro hm
      rw [cd_s, cB_s, ih (by omega)]
      by_cases q : zv h 37 m = (m : Int)
      · rw [if_pos q, if_pos (xb_i.mpr ⟨by omega, q⟩)]
      · rw [if_neg q, if_neg (fun z => q (xb_i.mp z).2)]
  have s2 : zv h 36 2 = (cB (zv h 37) 20 : Int) := J.2.2.2.2.2.2.1
  rw [s2, e n hn, cB_cut 20 hn (fun y a b => RA_out J b a)]
theorem x_CX {n k : Nat} {h h9 : ab_H} (J : RA n k h h9) : CX (xg h) (xb h) (xl h) n := fun c hc hb => by
  obtain ⟨s, x1, x2, x3, x4, x5, x6⟩ := x_car J hb
  have hn := J.1.1
  refine ⟨x4.1, x4.2, x5, fun y a b => ?_, fun c' hc' hb' hlt => ?_⟩
  · have := (x6 y (by omega)).2 ⟨a, b⟩
    unfold xg; simp [this]
  · obtain ⟨s', y1, y2, y3, y4, y5, y6⟩ := x_car J hb'
    rcases Nat.lt_or_ge c (c' + xl h c') with q | q
    · have a := (y6 c hc).1.mp ⟨by omega, q⟩
      have b := (x6 c hc).1.mp ⟨Nat.le_refl c, by omega⟩
      omega
    · exact q
theorem x_acx {n k : Nat} {h h9 : ab_H} (J : RA n k h h9) : acx h (xg h) (xb h) (xl h) n := by
  obtain ⟨r1, r2, r3, r4, r5, r6, r7, r8, -⟩ := J.1
  refine ⟨⟨r4, r1, by omega, fun y hy => xg_i, fun y hy => ⟨fun q => (xb_i.mp q).2, fun q => xb_i.mpr ⟨hy, q⟩⟩, fun c hc hb => ?_⟩, fun y hy => ⟨fun q => ?_, fun ⟨c, a, b, c2, e⟩ q => ?_⟩⟩
  · obtain ⟨s, x1, x2, x3, x4, x5, x6⟩ := x_car J hb
    exact ⟨s, x2, by omega, x3, x4.2⟩
  · rcases J.2.2.2.2.2.1.1 y hy with w | ⟨p, w1, w2, w3⟩
    · exact absurd w.1 q
    · have hb : xb h p = true := xb_i.mpr ⟨w1, w3⟩
      obtain ⟨s, x1, x2, x3, x4, x5, x6⟩ := x_car J hb
      have := (x6 y hy).1.mpr w2
      exact ⟨p, this.1, this.2, w1, hb⟩
  · obtain ⟨s, x1, x2, x3, x4, x5, x6⟩ := x_car J e
    have := (x6 y hy).1.mp ⟨a, b⟩
    omega
theorem x_hmx {n k : Nat} {h h9 : ab_H} (J : RA n k h h9) (hn0 : 0 < n) : hmx h9 (xg h) (xb h) (xl h) n := by
  obtain ⟨r1, r2, r3, r4, r5, r6, r7, r8, -⟩ := J.1
  obtain ⟨s1, s2, s3, s4, -⟩ := J.2.2.2.2.2
  have plb : ∀ y, y < 20 → zv h 37 y = -1 ∨ ∃ p : Nat, p < 20 ∧ zv h 37 y = p ∧ xb h p = true := fun y hy => by
    rcases s1.1 y hy with w | ⟨p, w1, w2, w3⟩
    · exact Or.inl w.1
    · exact Or.inr ⟨p, w1, w2, xb_i.mpr ⟨w1, w3⟩⟩
  refine ⟨r5, r1, fun y hy => ?_, fun y hy => ?_, fun c hc hb => ?_, fun y hy q => ?_, fun c hc hb y a b => ?_⟩
  · have e := RA_row J hy
    rw [xg_i, e]
    by_cases q : zv h 18 y = 0
    · rw [if_pos q]
      refine ⟨fun z => absurd q z, fun z => ?_⟩
      rcases plb y hy with w | ⟨p, w1, w2, w3⟩ <;> omega
    · rw [if_neg q]; exact ⟨fun _ => rfl, fun _ => q⟩
  · rw [xb_i]
    exact ⟨fun q => (RA_beg J hy).mp q.2, fun q => ⟨hy, (RA_beg J hy).mpr q⟩⟩
  · obtain ⟨s, x1, x2, x3, x4, x5, x6⟩ := x_car J hb
    have e := s4 c hc hn0
    rw [if_pos (xb_i.mp hb).2] at e
    exact ⟨s, by omega, e.trans x2, (RA_L J x1).1.trans x3, x4.2⟩
  · have e := RA_row J hy
    rw [e] at q ⊢
    by_cases g : zv h 18 y = 0
    · rw [if_pos g] at q ⊢
      rcases plb y hy with w | ⟨p, w1, w2, w3⟩
      · omega
      · obtain ⟨s, x1, x2, x3, x4, x5, x6⟩ := x_car J w3
        have := (x6 y hy).1.mpr w2
        exact ⟨p, w2, w1, w3, this.1, this.2⟩
    · rw [if_neg g] at q; omega
  · obtain ⟨s, x1, x2, x3, x4, x5, x6⟩ := x_car J hb
    rw [RA_row J (y := y) (by omega), if_pos ((x6 y (by omega)).2 ⟨a, b⟩)]
    exact (x6 y (by omega)).1.mp ⟨a, b⟩
theorem F8_mF {h h' : ab_H} (f : F8 h h') : mF h h' := ⟨fun b j r => by
  by_cases e : b = 200
  · subst e; unfold relM at r; exact f.2 j (by omega) (by omega)
  · exact f.1.1 b j (by simp only [List.mem_cons, List.not_mem_nil, or_false]; exact e), sm_dn f.1 rfl, fun l j => by rw [f.1.1 204 j (by decide)]; exact l j⟩
theorem F9_mF {h h' : ab_H} (f : F9 h h') : mF h h' := ⟨fun b j r => by
  by_cases e : b = 200
  · subst e; unfold relM at r; exact f.2 j (by omega)
  · exact f.1.1 b j (by simp only [List.mem_cons, List.not_mem_nil, or_false]; unfold relM at r; omega), sm_dn f.1 rfl, fun l j => by rw [f.1.1 204 j (by decide)]; exact l j⟩
theorem s_hearse {s x : Int} (hs : inR s) (hx : inR x) : SIM mX11_hearse mX12_hearse [.int (iI s), .int (iI x)] := fun h ⟨n, k, I⟩ => by
  obtain ⟨r1, r2, r3, r4, r5, r6, r7, r8, -⟩ := I.1.1
  obtain ⟨L, l1, l2⟩ := Ln I.1 s
  refine c_hearse (d := 54) hs hx (x_acx I.1).1 (x_CX I.1) l1 (fun q => ?_) (fun q h1 s1 => ?_)
  · obtain ⟨h9, e9, J, I9, -⟩ := nx I cF.rf
    have w7 := J.1.2.2.2.2.2.2.1
    exact c_mhearse0 (d := 57) e9 hs hx (by omega) ⟨rfl, n, k, I9⟩
  · obtain ⟨h9, e9, J, I9, -⟩ := nx I (cF_sm s1 rfl)
    have w7 := J.1.2.2.2.2.2.2.1
    obtain ⟨m, rfl⟩ : ∃ m : Nat, s = m := ⟨s.toNat, by omega⟩
    have y1 := l1 q.1
    have y3 := RA_L J (s := m) (by omega)
    rw [Int.toNat_natCast] at y1
    exact c_mhearse (d := 57) e9 (x_hmx J (by omega)) (x_CX J) (by omega) (y3.1.trans y1.1) y1.2 (by omega) q.2 (fun h2 f2 => ⟨rfl, n, k, IN_m (F8_mF f2) I9⟩)
theorem c_layWays_ {d : Nat} {h : ab_H} {Q : ab_Q} {n : Nat} (w : zv h 200 32 = n) (hn : n ≤ 20) (hz : zv h 200 24 = 0) (K : ∀ h', F9 h h' → Q (some (.int (iI 0))) h') : ab_X (d + 3) mX12_layWays 0 (lv_args 0 [.ref 200]) [] h Q := by
  show ab_X (d + 3) mX12_layWays 0 [(0, .ref 200)] [] h Q
  refine ab_aload_n (k := 0) dX12_layWays_0 rfl rfl ?_
  refine ab_aload_n (k := 0) dX12_layWays_1 rfl rfl ?_
  refine ab_callV (As := []) (rest := [.ref 200]) dX12_layWays_2 lX12_339 rfl (Nat.le_of_ble_eq_true rfl) (Nat.le_of_ble_eq_true rfl) rfl ?_
  refine c_carMany (n := n) w hn ?_
  generalize (cB (zv h 211) n : Int) = m
  show ab_X (d + 3) mX12_layWays 5 [(0, .ref 200)] [.int (iI m), .ref 200] h _
  refine z_putI dX12_layWays_5 fX12_422 rfl rfl ?_
  refine ab_aload_n (k := 0) dX12_layWays_8 rfl rfl ?_
  refine z_getI dX12_layWays_9 fX12_284 rfl (Or.inl rfl) ?_
  refine z_is (y := 0) ((zv_zp_ne (by decide)).trans hz) ?_
  refine z_if_eq (tgt := 24) dX12_layWays_12 (by decide) (by decide) (fun _ => ?_) (fun c12 => absurd rfl c12)
  refine z_iconst dX12_layWays_24 ?_
  refine z_zret dX12_layWays_25 rfl (Or.inl rfl) ?_
  exact K _ ⟨sm_zp (by decide), fun j hj => zv_zp_ne (by omega)⟩
theorem c_mcame_ {d : Nat} {h : ab_H} {Q : ab_Q} {h9 : ab_H} {n : Nat} (e9 : zp h 200 0 0 = h9) (w : zv h9 200 32 = n) (hn : n ≤ 20) (hz : zv h9 200 24 = 0) (K : ∀ h', F9 h9 h' → Q (some (.long (lL (-1)))) h') : ab_X (d + 4) mX12_came 0 (lv_args 0 [.ref 200]) [] h Q := by
  show ab_X (d + 4) mX12_came 0 [(0, .ref 200)] [] h Q
  refine ab_aload_n (k := 0) dX12_came_0 rfl rfl ?_
  refine z_iconst dX12_came_1 ?_
  refine z_putI dX12_came_2 fX12_111 rfl rfl ?_
  rw [e9]
  refine ab_aload_n (k := 0) dX12_came_5 rfl rfl ?_
  refine ab_callV (As := []) (rest := []) dX12_came_6 lX12_431 rfl (Nat.le_of_ble_eq_true rfl) (Nat.le_of_ble_eq_true rfl) rfl ?_
  refine c_layWays_ w hn hz (fun h1 hF1 => ?_)
  show ab_X (d + 4) mX12_came 9 [(0, .ref 200)] [.int (iI 0)] h1 _
  refine z_if_eq (tgt := 28) dX12_came_9 (by decide) (by decide) (fun _ => ?_) (fun c9 => absurd c9 (by decide))
  refine z_ldc2 (v := (-1)) dX12_came_28 qX12_386 (by decide) ?_
  refine z_lret dX12_came_31 rfl ?_
  exact K h1 hF1
theorem c_mlast_ {d : Nat} {h : ab_H} {Q : ab_Q} {h9 : ab_H} {n : Nat} (e9 : zp h 200 0 0 = h9) (w : zv h9 200 32 = n) (hn : n ≤ 20) (hz : zv h9 200 24 = 0) (K : ∀ h', F9 h9 h' → Q (some (.int (iI (-1)))) h') : ab_X (d + 4) mX12_last 0 (lv_args 0 [.ref 200]) [] h Q := by
  show ab_X (d + 4) mX12_last 0 [(0, .ref 200)] [] h Q
  refine ab_aload_n (k := 0) dX12_last_0 rfl rfl ?_
  refine z_iconst dX12_last_1 ?_
  refine z_putI dX12_last_2 fX12_111 rfl rfl ?_
  rw [e9]
  refine ab_aload_n (k := 0) dX12_last_5 rfl rfl ?_
  refine ab_callV (As := []) (rest := []) dX12_last_6 lX12_431 rfl (Nat.le_of_ble_eq_true rfl) (Nat.le_of_ble_eq_true rfl) rfl ?_
  refine c_layWays_ w hn hz (fun h1 hF1 => ?_)
  show ab_X (d + 4) mX12_last 9 [(0, .ref 200)] [.int (iI 0)] h1 _
  refine z_if_ne (tgt := 14) dX12_last_9 (by decide) (by decide) (fun c9 => absurd c9 (by decide)) (fun _ => ?_)
  refine z_iconst dX12_last_12 ?_
  refine z_iret dX12_last_13 rfl ?_
  exact K h1 hF1
theorem s_came : SIM mX11_came mX12_came [] := fun h ⟨n, k, I⟩ => by
  obtain ⟨r1, r2, r3, r4, r5, r6, r7, r8, -⟩ := I.1.1
  obtain ⟨cr, hcr⟩ := CR_ex (xb h) n
  refine c_came (d := 56) (x_acx I.1) (x_CX I.1) hcr (x_cd I.1) (fun q => ?_) (fun q1 q2 h1 s1 => ?_)
  · obtain ⟨h9, e9, J, I9, -⟩ := nx I cF.rf
    have w7 := J.1.2.2.2.2.2.2.1
    by_cases hn0 : 0 < n
    · exact c_mcame (d := 56) e9 (x_hmx J hn0) (x_CX J) hcr (fun _ h2 f2 => ⟨rfl, n, k, IN_m (F9_mF f2) I9⟩) (fun a b => absurd ⟨by omega, b⟩ q)
    · exact c_mcame_ (d := 56) e9 J.1.2.2.2.2.1 r1 (by omega) (fun h2 f2 => ⟨rfl, n, k, IN_m (F9_mF f2) I9⟩)
  · obtain ⟨h9, e9, J, I9, -⟩ := nx I (cF_sm s1 rfl)
    have w7 := J.1.2.2.2.2.2.2.1
    exact c_mcame (d := 56) e9 (x_hmx J (by omega)) (x_CX J) hcr (fun z => absurd ⟨by omega, q2⟩ z) (fun a b h2 f2 => ⟨rfl, n, k, IN_m (F9_mF f2) I9⟩)
theorem s_last : SIM mX11_last mX12_last [] := fun h ⟨n, k, I⟩ => by
  obtain ⟨r1, r2, r3, r4, r5, r6, r7, r8, -⟩ := I.1.1
  obtain ⟨cr, hcr⟩ := CR_ex (xb h) n
  refine c_last (d := 56) (x_acx I.1) (x_CX I.1) hcr (x_cd I.1) (fun q => ?_) (fun q1 q2 h1 B s1 hB => ?_)
  · obtain ⟨h9, e9, J, I9, -⟩ := nx I cF.rf
    have w7 := J.1.2.2.2.2.2.2.1
    by_cases hn0 : 0 < n
    · exact c_mlast (d := 56) e9 (x_hmx J hn0) (x_CX J) hcr (fun _ h2 f2 => ⟨rfl, n, k, IN_m (F9_mF f2) I9⟩) (fun a b => absurd ⟨by omega, b⟩ q)
    · exact c_mlast_ (d := 56) e9 J.1.2.2.2.2.1 r1 (by omega) (fun h2 f2 => ⟨rfl, n, k, IN_m (F9_mF f2) I9⟩)
  · obtain ⟨h9, e9, J, I9, -⟩ := nx I (cF_sm s1 rfl)
    have w7 := J.1.2.2.2.2.2.2.1
    exact c_mlast (d := 56) e9 (x_hmx J (by omega)) (x_CX J) hcr (fun z => absurd ⟨by omega, q2⟩ z) (fun a b h2 B2 f2 hB2 => by
      have : B2 = B := Nat.eq_of_testBit_eq (fun z => Bool.eq_iff_iff.mpr ((hB2 z).trans (hB z).symm))
      subst this
      exact ⟨rfl, n, k, IN_m (F9_mF f2) I9⟩)
