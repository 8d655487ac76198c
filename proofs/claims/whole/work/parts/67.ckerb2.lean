/-! THE CLASS READS A KERB: clauses, the whole kerb -/
def gtd (gs : List (Int × Int)) (y : Nat) : Prop := ∃ g ∈ gs, g.1 ≤ (y : Int) ∧ (y : Int) < g.1 + g.2
def KC (h : ab_H) (S : kS) : Prop := (∀ i, i < 3 → zv h 4 i = g3 S.2.1 i) ∧ zv h 4 3 = (S.2.2.1.length : Int) ∧ (∀ i, i < S.2.2.1.length → zv h 5 i = (S.2.2.1.getD i (0, 0)).1 ∧ zv h 6 i = (S.2.2.1.getD i (0, 0)).2) ∧ zv h 3 4 = (if S.1 = true then 1 else 0) ∧ zv h 3 5 = (S.2.2.2.length : Int) ∧ ∀ y, y < 20 → (zv h 7 y = 0 ∨ zv h 7 y = 1) ∧ (zv h 7 y = 1 ↔ gtd S.2.2.2 y)
abbrev KP : List Nat := [1, 3, 4, 5, 6, 7, 8, 9]
def KQ (T : Nat → Int) (z : Nat) (h0 h : ab_H) (p : Nat) (S : kS) : Prop := sm KP h0 h ∧ TL T z h p ∧ KC h S ∧ kOK S
def KE (z : Nat) (h0 h : ab_H) (w : Int) : Prop := sm KP h0 h ∧ TD z h w
theorem smK {l : List Nat} {h h' : ab_H} (s : sm l h h') (hl : ∀ x ∈ l, x ∈ KP) : sm KP h h' := s.mono hl
theorem KC_m {h h' : ab_H} {S : kS} {l : List Nat} (C : KC h S) (s : sm l h h') (h3 : 3 ∉ l) (h4 : 4 ∉ l) (h5 : 5 ∉ l) (h6 : 6 ∉ l) (h7 : 7 ∉ l) : KC h' S := by
  obtain ⟨a, b, c, e, f, g⟩ := C
  exact ⟨fun i hi => (s.1 4 i h4).trans (a i hi), (s.1 4 3 h4).trans b, fun i hi => by rw [s.1 5 i h5, s.1 6 i h6]; exact c i hi, (s.1 3 4 h3).trans e, (s.1 3 5 h3).trans f, fun y hy => by rw [s.1 7 y h7]; exact g y hy⟩
theorem KC_k {h h' : ab_H} {S : kS} {v : V3} (C : KC h S) (h4 : ∀ i, i < 3 → zv h' 4 i = g3 v i) (h43 : zv h' 4 3 = zv h 4 3) (h5 : ∀ b j, 5 ≤ b ∧ b ≤ 7 → zv h' b j = zv h b j) (h34 : zv h' 3 4 = 1) (h35 : zv h' 3 5 = zv h 3 5) : KC h' (true, v, S.2.2.1, S.2.2.2) := by
  obtain ⟨a, b, c, e, f, g⟩ := C
  exact ⟨h4, h43.trans b, fun i hi => by rw [h5 5 i (by omega), h5 6 i (by omega)]; exact c i hi, h34, h35.trans f, fun y hy => by rw [h5 7 y (by omega)]; exact g y hy⟩
theorem KC_s {h h' : ab_H} {S : kS} {l x : Int} (C : KC h S) (h4 : ∀ i, i < 3 → zv h' 4 i = zv h 4 i) (h43 : zv h' 4 3 = (S.2.2.1.length : Int) + 1) (h5 : ∀ i, zv h' 5 i = if i = S.2.2.1.length then l else zv h 5 i) (h6 : ∀ i, zv h' 6 i = if i = S.2.2.1.length then x else zv h 6 i) (h7 : ∀ j, zv h' 7 j = zv h 7 j) (h3 : ∀ j, zv h' 3 j = zv h 3 j) : KC h' (S.1, S.2.1, S.2.2.1 ++ [(l, x)], S.2.2.2) := by
  obtain ⟨a, b, c, e, f, g⟩ := C
  refine ⟨fun i hi => (h4 i hi).trans (a i hi), by rw [h43]; simp, fun i hi => ?_, (h3 4).trans e, (h3 5).trans f, fun y hy => by rw [h7]; exact g y hy⟩
  have hi2 : i < S.2.2.1.length + 1 := by rw [List.length_append] at hi; exact hi
  rw [h5, h6, List.getD_eq_getElem?_getD]
  by_cases q : i = S.2.2.1.length
  · rw [if_pos q, if_pos q, q, List.getElem?_append_right (Nat.le_refl _), Nat.sub_self]; exact ⟨rfl, rfl⟩
  · rw [if_neg q, if_neg q, List.getElem?_append_left (by omega), ← List.getD_eq_getElem?_getD]; exact c i (by omega)
theorem KC_g {h h' : ab_H} {S : kS} {a l : Nat} (C : KC h S) (h4 : ∀ j, zv h' 4 j = zv h 4 j) (h5 : ∀ i, zv h' 5 i = zv h 5 i) (h6 : ∀ i, zv h' 6 i = zv h 6 i) (h7 : ∀ j, zv h' 7 j = if a ≤ j ∧ j < min (a + l) 20 then 1 else zv h 7 j) (h34 : zv h' 3 4 = zv h 3 4) (h35 : zv h' 3 5 = (S.2.2.2.length : Int) + 1) : KC h' (S.1, S.2.1, S.2.2.1, S.2.2.2 ++ [((a : Int), (l : Int))]) := by
  obtain ⟨p, b, c, e, f, g⟩ := C
  refine ⟨fun i hi => (h4 i).trans (p i hi), (h4 3).trans b, fun i hi => by rw [h5, h6]; exact c i hi, h34.trans e, by rw [h35]; simp, fun y hy => ?_⟩
  have gy := g y hy
  have key : gtd (S.2.2.2 ++ [((a : Int), (l : Int))]) y ↔ gtd S.2.2.2 y ∨ (a ≤ y ∧ y < a + l) := by
    constructor
    · rintro ⟨q, q1, q2⟩
      rcases List.mem_append.mp q1 with r | r
      · exact Or.inl ⟨q, r, q2⟩
      · rw [List.mem_singleton.mp r] at q2
        exact Or.inr (by have := q2.1; have := q2.2; simp only at *; omega)
    · rintro (⟨q, q1, q2⟩ | q)
      · exact ⟨q, List.mem_append_left _ q1, q2⟩
      · exact ⟨((a : Int), (l : Int)), List.mem_append_right _ (List.mem_singleton.mpr rfl), by simp only; omega, by simp only; omega⟩
  show (zv h' 7 y = 0 ∨ zv h' 7 y = 1) ∧ (zv h' 7 y = 1 ↔ gtd (S.2.2.2 ++ [((a : Int), (l : Int))]) y)
  rw [h7, key]
  by_cases q : a ≤ y ∧ y < min (a + l) 20
  · rw [if_pos q]; exact ⟨Or.inr rfl, fun _ => Or.inr (by omega), fun _ => rfl⟩
  · rw [if_neg q]; exact ⟨gy.1, fun r => Or.inl (gy.2.mp r), fun r => gy.2.mpr (r.resolve_right (by omega))⟩
theorem kOK_k {S : kS} {v : V3} (k : kOK S) (h : vOK 0 v) : kOK (true, v, S.2.2.1, S.2.2.2) := ⟨h, k.2.1, k.2.2.1, k.2.2.2.1, k.2.2.2.2⟩
theorem kOK_s {S : kS} {v : V3} (k : kOK S) (h : vOK 1 v) (hl : S.2.2.1.length < 4) : kOK (S.1, S.2.1, S.2.2.1 ++ [(v.1, v.2.1)], S.2.2.2) := ⟨k.1, fun s hs => by
  rcases List.mem_append.mp hs with r | r
  · exact k.2.1 s r
  · rw [List.mem_singleton.mp r]; exact ⟨h 0 (by decide), h 1 (by decide)⟩, k.2.2.1, by show (S.2.2.1 ++ [(v.1, v.2.1)]).length ≤ 4; rw [List.length_append]; exact hl, k.2.2.2.2⟩
theorem kOK_g {S : kS} {v : V3} (k : kOK S) (h : vOK 2 v) (hl : S.2.2.2.length < 4) : kOK (S.1, S.2.1, S.2.2.1, S.2.2.2 ++ [(v.1, v.2.1)]) := ⟨k.1, k.2.1, fun s hs => by
  rcases List.mem_append.mp hs with r | r
  · exact k.2.2.1 s r
  · rw [List.mem_singleton.mp r]; exact ⟨h 0 (by decide), h 1 (by decide)⟩, k.2.2.2.1, by show (S.2.2.2 ++ [(v.1, v.2.1)]).length ≤ 4; rw [List.length_append]; exact hl⟩
theorem c_setK8 {d : Nat} {h : ab_H} {Q : ab_Q}  (K : ∀ h', sm [4] h h' → (∀ i, i < 3 → zv h' 4 i = zv h 8 i) → zv h' 4 3 = zv h 4 3 → Q none h') : ab_X d mX3_setKerb 0 (lv_args 0 [.ref 3, .ref 8]) [] h Q := by
  show ab_X d mX3_setKerb 0 [(0, .ref 3), (1, .ref 8)] [] h Q
  refine ab_aload_n (k := 0) dX3_setKerb_0 rfl rfl ?_
  refine z_getP (b := 4) dX3_setKerb_1 fX3_12 rfl rfl rfl ?_
  refine ab_aload_n (k := 1) dX3_setKerb_4 rfl rfl ?_
  refine z_iconst dX3_setKerb_5 ?_
  refine z_iald dX3_setKerb_6 rfl (by omega) (by omega) ?_
  show ab_X _ _ _ _ (.int (iI (zv h 8 0)) :: _) _ _
  have b1 := zv_R h 8 0
  refine z_putI dX3_setKerb_7 fX3_72 rfl rfl ?_
  refine ab_aload_n (k := 0) dX3_setKerb_10 rfl rfl ?_
  refine z_getP (b := 4) dX3_setKerb_11 fX3_12 rfl rfl rfl ?_
  refine ab_aload_n (k := 1) dX3_setKerb_14 rfl rfl ?_
  refine z_iconst dX3_setKerb_15 ?_
  refine z_iald dX3_setKerb_16 rfl (by omega) (by omega) ?_
  show ab_X _ _ _ _ (.int (iI (zv (zp h 4 0 (zv h 8 0)) 8 1)) :: _) _ _
  refine z_is (y := zv h 8 1) (zv_zp_a (by decide)) ?_
  have b2 := zv_R h 8 1
  refine z_putI dX3_setKerb_17 fX3_75 rfl rfl ?_
  refine ab_aload_n (k := 0) dX3_setKerb_20 rfl rfl ?_
  refine z_getP (b := 4) dX3_setKerb_21 fX3_12 rfl rfl rfl ?_
  refine ab_aload_n (k := 1) dX3_setKerb_24 rfl rfl ?_
  refine z_iconst dX3_setKerb_25 ?_
  refine z_iald dX3_setKerb_26 rfl (by omega) (by omega) ?_
  show ab_X _ _ _ _ (.int (iI (zv (zp (zp h 4 0 (zv h 8 0)) 4 1 (zv h 8 1)) 8 2)) :: _) _ _
  refine z_is (y := zv h 8 2) ((zv_zp_a (by decide)).trans (zv_zp_a (by decide))) ?_
  have b3 := zv_R h 8 2
  refine z_putI dX3_setKerb_27 fX3_78 rfl rfl ?_
  refine z_vret dX3_setKerb_30 rfl ?_
  refine K _ (((sm_zp (by decide)).trans (sm_zp (by decide))).trans (sm_zp (by decide))) (fun i hi => ?_) (by rw [zv_zp_ne (by decide), zv_zp_ne (by decide), zv_zp_ne (by decide)])
  rcases (show i = 0 ∨ i = 1 ∨ i = 2 by omega) with rfl | rfl | rfl
  · rw [zv_zp_ne (by decide), zv_zp_ne (by decide), zv_zp_s (zv_R _ _ _)]
  · rw [zv_zp_ne (by decide), zv_zp_s (zv_R _ _ _)]
  · rw [zv_zp_s (zv_R _ _ _)]
theorem c_setKU {d : Nat} {h : ab_H} {Q : ab_Q}  (K : ∀ h', sm [4] h h' → (∀ i, i < 3 → zv h' 4 i = g3 (12, 0, 50) i) → zv h' 4 3 = zv h 4 3 → Q none h') : ab_X d mX3_setKerb 0 (lv_args 0 [.ref 3, .ref (1000 + 0)]) [] h Q := by
  show ab_X d mX3_setKerb 0 [(0, .ref 3), (1, .ref (1000 + 0))] [] h Q
  refine ab_aload_n (k := 0) dX3_setKerb_0 rfl rfl ?_
  refine z_getP (b := 4) dX3_setKerb_1 fX3_12 rfl rfl rfl ?_
  refine ab_aload_n (k := 1) dX3_setKerb_4 rfl rfl ?_
  refine z_iconst dX3_setKerb_5 ?_
  refine ab_tald dX3_setKerb_6 (by decide) (iI_in (n := 3) (by decide) (by decide) (by decide)) ?_
  rw [show (ab_sc 0).getD (iI 0).toNatClampNeg 0 = iI 12 by decide]
  refine z_putI dX3_setKerb_7 fX3_72 rfl rfl ?_
  refine ab_aload_n (k := 0) dX3_setKerb_10 rfl rfl ?_
  refine z_getP (b := 4) dX3_setKerb_11 fX3_12 rfl rfl rfl ?_
  refine ab_aload_n (k := 1) dX3_setKerb_14 rfl rfl ?_
  refine z_iconst dX3_setKerb_15 ?_
  refine ab_tald dX3_setKerb_16 (by decide) (iI_in (n := 3) (by decide) (by decide) (by decide)) ?_
  rw [show (ab_sc 0).getD (iI 1).toNatClampNeg 0 = iI 0 by decide]
  refine z_putI dX3_setKerb_17 fX3_75 rfl rfl ?_
  refine ab_aload_n (k := 0) dX3_setKerb_20 rfl rfl ?_
  refine z_getP (b := 4) dX3_setKerb_21 fX3_12 rfl rfl rfl ?_
  refine ab_aload_n (k := 1) dX3_setKerb_24 rfl rfl ?_
  refine z_iconst dX3_setKerb_25 ?_
  refine ab_tald dX3_setKerb_26 (by decide) (iI_in (n := 3) (by decide) (by decide) (by decide)) ?_
  rw [show (ab_sc 0).getD (iI 2).toNatClampNeg 0 = iI 50 by decide]
  refine z_putI dX3_setKerb_27 fX3_78 rfl rfl ?_
  refine z_vret dX3_setKerb_30 rfl ?_
  refine K _ (((sm_zp (by decide)).trans (sm_zp (by decide))).trans (sm_zp (by decide))) (fun i hi => ?_) (by rw [zv_zp_ne (by decide), zv_zp_ne (by decide), zv_zp_ne (by decide)])
  rcases (show i = 0 ∨ i = 1 ∨ i = 2 by omega) with rfl | rfl | rfl
  · rw [zv_zp_ne (by decide), zv_zp_ne (by decide), zv_zp_s (by decide)]; rfl
  · rw [zv_zp_ne (by decide), zv_zp_s (by decide)]; rfl
  · rw [zv_zp_s (by decide)]; rfl
theorem lp_addGateD {d : Nat} {Q : ab_Q} {h0 : ab_H} {a l : Int}  (ha : 0 ≤ a ∧ a ≤ 9999) (hl : 0 ≤ l ∧ l ≤ 9999) (K : ∀ h', sm [7] h0 h' → Q none h') : ∀ (nn : Nat) (y : Nat) (h : ab_H), 20 - y = nn → (a ≤ y ∧ y ≤ 9999) → (sm [7] h0 h) → ab_X d mX6_addGate 2 [(0, .ref 4), (1, .int (iI a)), (2, .int (iI l)), (3, .int (iI (y : Int)))] [] h Q := by
  intro nn
  induction nn using Nat.strongRecOn with
  | ind nn ih =>
  intro y h hnn hy hs
  refine ab_iload_n (k := 3) dX6_addGate_2 rfl rfl ?_
  refine ab_iload_n (k := 1) dX6_addGate_3 rfl rfl ?_
  refine ab_iload_n (k := 2) dX6_addGate_4 rfl rfl ?_
  refine z_iadd dX6_addGate_5 ?_
  refine z_icmp_ge (tgt := 28) dX6_addGate_6 (by decide) (by omega) (by omega) (fun c6 => ?_) (fun c6 => ?_)
  · skip
    refine z_vret dX6_addGate_28 rfl ?_
    exact K h hs
  · skip
    refine ab_iload_n (k := 3) dX6_addGate_9 rfl rfl ?_
    refine z_bipush dX6_addGate_10 (by decide) ?_
    refine z_icmp_ge (tgt := 28) dX6_addGate_12 (by decide) (by omega) (by decide) (fun c12 => ?_) (fun c12 => ?_)
    · skip
      refine z_vret dX6_addGate_28 rfl ?_
      exact K h hs
    · skip
      refine ab_aload_n (k := 0) dX6_addGate_15 rfl rfl ?_
      refine z_getP (b := 7) dX6_addGate_16 fX6_18 rfl rfl rfl ?_
      refine ab_iload_n (k := 3) dX6_addGate_19 rfl rfl ?_
      refine z_iconst dX6_addGate_20 ?_
      refine z_zast dX6_addGate_21 rfl (by omega) (by omega) (Or.inr rfl) ?_
      simp only [Int.toNat_natCast]
      refine z_iinc (k := 3) (v := (y : Int) + 1) (ls' := [(3, .int (iI ((y : Int) + 1))), (0, .ref 4), (1, .int (iI a)), (2, .int (iI l))]) dX6_addGate_22 rfl rfl (by decide) rfl ?_
      refine ab_goto (tgt := 2) dX6_addGate_25 (by decide) ?_
      refine ab_sub (ls' := [(0, .ref 4), (1, .int (iI a)), (2, .int (iI l)), (3, .int (iI ((y : Int) + 1)))]) (ks := [1, 2, 3, 0]) rfl ?_
      exact ih _ (by omega) (y + 1) _ rfl (by omega) (hs.trans (sm_zp (by decide)))
theorem c_addGateD {d : Nat} {h : ab_H} {Q : ab_Q} {a l : Int} (ha : 0 ≤ a ∧ a ≤ 9999) (hl : 0 ≤ l ∧ l ≤ 9999) (K : ∀ h', sm [7] h h' → Q none h') : ab_X d mX6_addGate 0 (lv_args 0 [.ref 4, .int (iI a), .int (iI l)]) [] h Q := by
  show ab_X d mX6_addGate 0 [(0, .ref 4), (1, .int (iI a)), (2, .int (iI l))] [] h Q
  refine ab_iload_n (k := 1) dX6_addGate_0 rfl rfl ?_
  refine ab_istore_n (ls' := [(3, .int (iI a)), (0, .ref 4), (1, .int (iI a)), (2, .int (iI l))]) dX6_addGate_1 rfl (by decide) rfl ?_
  refine ab_sub (ls' := [(0, .ref 4), (1, .int (iI a)), (2, .int (iI l)), (3, .int (iI a))]) (ks := [1, 2, 3, 0]) rfl ?_
  obtain ⟨y, hy⟩ : ∃ y : Nat, a = (y : Int) := ⟨a.toNat, by omega⟩
  subst hy
  exact lp_addGateD ha hl K _ y h rfl (by omega) sm.refl
theorem c_kclause {d : Nat} {h : ab_H} {Q : ab_Q} {T : Nat → Int} {z p : Nat} {h0 : ab_H} {S : kS}  (ht : tx T z) (Sh : KQ T z h0 h p S) (K1 : ∀ h' p' q S', kclF T z S p = (-1, q, S') → lk T z p' = q → p < p' → KQ T z h0 h' p' S' → Q none h') (K0 : ∀ h' w, (kclF T z S p).1 = w → ¬ w = -1 → KE z h0 h' w → Q none h') : ab_X (d + 6) mX3_readClause 0 (lv_args 0 [.ref 3]) [] h Q := by
  show ab_X (d + 6) mX3_readClause 0 [(0, .ref 3)] [] h Q
  have hz := ht.1
  have hpz := Sh.2.1.2.2.2.2
  have hlen := Sh.2.2.2.2.2.2
  have hkb : (if S.1 = true then 1 else 0 : Int) = 0 ∨ (if S.1 = true then 1 else 0 : Int) = 1 := by split <;> omega
  have hkf : (if S.1 = true then 1 else 0 : Int) = 0 ↔ S.1 = false := by cases S.1 <;> simp
  refine ab_aload_n (k := 0) dX3_readClause_0 rfl rfl ?_
  refine z_getP (b := 1) dX3_readClause_1 fX3_26 rfl rfl rfl ?_
  refine ab_callV (As := []) (rest := []) dX3_readClause_4 lX3_56 rfl (Nat.le_of_ble_eq_true rfl) (Nat.le_of_ble_eq_true rfl) rfl ?_
  refine c_tlook ht Sh.2.1 (fun l4 sl4 Sl4 => ?_)
  have y4 := sg_b ht p
  show ab_X (d + 6) mX3_readClause 7 [(0, .ref 3)] [.int (iI (sg T z p))] l4 _
  refine ab_istore_n (ls' := [(1, .int (iI (sg T z p))), (0, .ref 3)]) dX3_readClause_7 rfl (by decide) rfl ?_
  refine ab_iload_n (k := 0) dX3_readClause_8 rfl rfl ?_
  refine z_bipush dX3_readClause_9 (by decide) ?_
  refine z_icmp_ne (tgt := 52) dX3_readClause_11 (by decide) (by omega) (by decide) (fun c11 => ?_) (fun c11 => ?_)
  · skip
    refine ab_iload_n (k := 0) dX3_readClause_52 rfl rfl ?_
    refine z_bipush dX3_readClause_53 (by decide) ?_
    refine z_icmp_ne (tgt := 106) dX3_readClause_55 (by decide) (by omega) (by decide) (fun c55 => ?_) (fun c55 => ?_)
    · skip
      refine ab_iload_n (k := 0) dX3_readClause_106 rfl rfl ?_
      refine z_bipush dX3_readClause_107 (by decide) ?_
      refine z_icmp_ne (tgt := 167) dX3_readClause_109 (by decide) (by omega) (by decide) (fun c109 => ?_) (fun c109 => ?_)
      · skip
        refine ab_aload_n (k := 1) dX3_readClause_167 rfl rfl ?_
        refine z_getP (b := 1) dX3_readClause_168 fX3_26 rfl rfl rfl ?_
        refine ab_callV (As := []) (rest := []) dX3_readClause_171 lX3_66 rfl (Nat.le_of_ble_eq_true rfl) (Nat.le_of_ble_eq_true rfl) rfl ?_
        refine c_trefuse ht Sl4 (lk_lk _ _ _) (fun e171 se171 Se171 => ?_)
        show ab_X (d + 6) mX3_readClause 174 [(1, .int (iI (sg T z p))), (0, .ref 3)] [] e171 _
        refine z_vret dX3_readClause_174 rfl ?_
        rw [lk_lk] at Se171
        refine K0 _ _ (kcl_n ?_ ?_ ?_) (by omega) ⟨(Sh.1.trans (smK sl4 (by decide))).trans (smK se171 (by decide)), Se171⟩
        · first | omega | (rintro ⟨q1, q2⟩; rw [q2] at *; simp at *; omega) | (rintro ⟨q1, q2⟩; simp [q2] at c18)
        · omega
        · omega
      · skip
        refine ab_aload_n (k := 1) dX3_readClause_112 rfl rfl ?_
        refine z_getI dX3_readClause_113 fX3_49 rfl (Or.inl rfl) ?_
        refine z_is (y := ((S.2.2.2.length : Nat) : Int)) ((sl4.1 3 5 (by decide)).trans Sh.2.2.1.2.2.2.2.1) ?_
        refine z_iconst dX3_readClause_116 ?_
        refine z_icmp_ge (tgt := 167) dX3_readClause_117 (by decide) (by omega) (by decide) (fun c117 => ?_) (fun c117 => ?_)
        · skip
          refine ab_aload_n (k := 1) dX3_readClause_167 rfl rfl ?_
          refine z_getP (b := 1) dX3_readClause_168 fX3_26 rfl rfl rfl ?_
          refine ab_callV (As := []) (rest := []) dX3_readClause_171 lX3_66 rfl (Nat.le_of_ble_eq_true rfl) (Nat.le_of_ble_eq_true rfl) rfl ?_
          refine c_trefuse ht Sl4 (lk_lk _ _ _) (fun e171 se171 Se171 => ?_)
          show ab_X (d + 6) mX3_readClause 174 [(1, .int (iI (sg T z p))), (0, .ref 3)] [] e171 _
          refine z_vret dX3_readClause_174 rfl ?_
          rw [lk_lk] at Se171
          refine K0 _ _ (kcl_n ?_ ?_ ?_) (by omega) ⟨(Sh.1.trans (smK sl4 (by decide))).trans (smK se171 (by decide)), Se171⟩
          · first | omega | (rintro ⟨q1, q2⟩; rw [q2] at *; simp at *; omega) | (rintro ⟨q1, q2⟩; simp [q2] at c18)
          · omega
          · omega
        · skip
          refine ab_aload_n (k := 1) dX3_readClause_120 rfl rfl ?_
          refine ab_dup dX3_readClause_121 rfl ?_
          refine z_getI dX3_readClause_122 fX3_49 rfl (Or.inl rfl) ?_
          refine z_is (y := ((S.2.2.2.length : Nat) : Int)) ((sl4.1 3 5 (by decide)).trans Sh.2.2.1.2.2.2.2.1) ?_
          refine z_iconst dX3_readClause_125 ?_
          refine z_iadd dX3_readClause_126 ?_
          refine z_putI dX3_readClause_127 fX3_49 rfl rfl ?_
          obtain ⟨l127, el127⟩ : ∃ z : ab_H, z = zp l4 3 5 (((S.2.2.2.length : Nat) : Int) + 1) := ⟨_, rfl⟩
          rw [← el127]
          have Sl127 : TL T z l127 (lk T z p) := by rw [el127]; exact TL_sm Sl4 (sm_zp (l := [3]) (by decide)) (by decide) (by decide)
          refine ab_aload_n (k := 1) dX3_readClause_130 rfl rfl ?_
          refine ab_ldcs (j := 2) dX3_readClause_131 (by decide) ?_
          refine ab_gets (j := 6) dX3_readClause_133 (by decide) fX3_110 ?_
          refine ab_gets (j := 7) dX3_readClause_136 (by decide) fX3_113 ?_
          refine ab_gets (j := 8) dX3_readClause_139 (by decide) fX3_116 ?_
          refine ab_callV (As := [.ref (2000 + 2), .ref (1000 + 6), .ref (1000 + 7), .ref (1000 + 8)]) (rest := []) dX3_readClause_142 lX3_89 rfl (Nat.le_of_ble_eq_true rfl) (Nat.le_of_ble_eq_true rfl) rfl ?_
          have zin := sg_in (T := T) (z := z) (p := p) (by omega)
          refine c_items2 ht Sl127 zin (fun l142 p142 q142 v142 j142 b142 b2142 vk142 sl142 Sl142 V142 => ?_) (fun e142 w142 j142 n142 se142 Se142 v0142 v1142 => ?_)
          · skip
            show ab_X (d + 6) mX3_readClause 145 [(1, .int (iI (sg T z p))), (0, .ref 3)] [] l142 _
            refine ab_aload_n (k := 1) dX3_readClause_145 rfl rfl ?_
            refine z_getP (b := 4) dX3_readClause_146 fX3_12 rfl rfl rfl ?_
            refine ab_aload_n (k := 1) dX3_readClause_149 rfl rfl ?_
            refine z_getP (b := 8) dX3_readClause_150 fX3_18 rfl rfl rfl ?_
            refine z_iconst dX3_readClause_153 ?_
            refine z_iald dX3_readClause_154 rfl (by omega) (by omega) ?_
            show ab_X _ _ _ _ (.int (iI (zv l142 8 0)) :: _) _ _
            refine z_is (y := ((v142.1.toNat : Nat) : Int)) ((V142 0 (by decide)).trans (by have := vk142 0 (by decide); have e9 : g3 v142 0 = v142.1 := rfl; have e8 : kl 2 0 = 0 := rfl; omega)) ?_
            refine ab_aload_n (k := 1) dX3_readClause_155 rfl rfl ?_
            refine z_getP (b := 8) dX3_readClause_156 fX3_18 rfl rfl rfl ?_
            refine z_iconst dX3_readClause_159 ?_
            refine z_iald dX3_readClause_160 rfl (by omega) (by omega) ?_
            show ab_X _ _ _ _ (.int (iI (zv l142 8 1)) :: _) _ _
            refine z_is (y := ((v142.2.1.toNat : Nat) : Int)) ((V142 1 (by decide)).trans (by have := vk142 1 (by decide); have e9 : g3 v142 1 = v142.2.1 := rfl; have e8 : kl 2 1 = 1 := rfl; omega)) ?_
            
            refine ab_callV (As := [.int (iI ((v142.1.toNat : Nat) : Int)), .int (iI ((v142.2.1.toNat : Nat) : Int))]) (rest := []) dX3_readClause_161 lX3_119 rfl (Nat.le_of_ble_eq_true rfl) (Nat.le_of_ble_eq_true rfl) rfl ?_
            have wb0 := vk142 0 (by decide)
            have wb1 := vk142 1 (by decide)
            have f90 : g3 v142 0 = v142.1 := rfl
            have f91 : g3 v142 1 = v142.2.1 := rfl
            have f70 : km 2 0 = 19 := rfl
            have f71 : km 2 1 = 9 := rfl
            refine c_addGate (by omega) (by omega) (fun k161 sk161 => ?_)
            show ab_X (d + 6) mX3_readClause 164 [(1, .int (iI (sg T z p))), (0, .ref 3)] [] k161 _
            refine ab_goto (tgt := 174) dX3_readClause_164 (by decide) ?_
            refine z_vret dX3_readClause_174 rfl ?_
            have vb0 := vk142 0 (by decide)
            have vb1 := vk142 1 (by decide)
            have e90 : g3 v142 0 = v142.1 := rfl
            have e91 : g3 v142 1 = v142.2.1 := rfl
            have e80 : kl 2 0 = 0 := rfl
            have e81 : kl 2 1 = 1 := rfl
            have o : ∀ b j, b ≠ 1 → b ≠ 3 → b ≠ 7 → b ≠ 8 → b ≠ 9 → zv k161 b j = zv h b j := fun b j b1 b3 b7 b8 b9 => by rw [sk161.1.1 b j (by simp only [List.mem_cons, List.not_mem_nil, or_false]; omega), sl142.1 b j (by simp only [List.mem_cons, List.not_mem_nil, or_false]; omega), el127, zv_zp_a (by omega), sl4.1 b j (by simp only [List.mem_cons, List.not_mem_nil, or_false]; omega)]
            have hC := KC_g (a := v142.1.toNat) (l := v142.2.1.toNat) (h' := k161) Sh.2.2.1 (fun j => o 4 j (by decide) (by decide) (by decide) (by decide) (by decide)) (fun j => o 5 j (by decide) (by decide) (by decide) (by decide) (by decide)) (fun j => o 6 j (by decide) (by decide) (by decide) (by decide) (by decide)) (fun j => by rw [sk161.2 j, sl142.1 7 j (by decide), el127, zv_zp_a (by decide), sl4.1 7 j (by decide)]) (by rw [sk161.1.1 3 4 (by decide), sl142.1 3 4 (by decide), el127, zv_zp_ne (by decide), sl4.1 3 4 (by decide)]) (by rw [sk161.1.1 3 5 (by decide), sl142.1 3 5 (by decide), el127, zv_zp_s (by omega)])
            rw [show ((v142.1.toNat : Nat) : Int) = v142.1 by omega, show ((v142.2.1.toNat : Nat) : Int) = v142.2.1 by omega] at hC
            exact K1 _ _ _ _ (kcl_g (by omega) (by omega) j142) b142 (by have := lk_ge T z p; omega) ⟨(((Sh.1.trans (smK sl4 (by decide))).trans (by rw [el127]; exact sm_zp (by decide))).trans (smK sl142 (by decide))).trans (smK sk161.1 (by decide)), TL_sm Sl142 sk161.1 (by decide) (by decide), hC, kOK_g Sh.2.2.2 vk142 (by omega)⟩
          · skip
            show ab_X (d + 6) mX3_readClause 145 [(1, .int (iI (sg T z p))), (0, .ref 3)] [] e142 _
            refine ab_aload_n (k := 1) dX3_readClause_145 rfl rfl ?_
            refine z_getP (b := 4) dX3_readClause_146 fX3_12 rfl rfl rfl ?_
            refine ab_aload_n (k := 1) dX3_readClause_149 rfl rfl ?_
            refine z_getP (b := 8) dX3_readClause_150 fX3_18 rfl rfl rfl ?_
            refine z_iconst dX3_readClause_153 ?_
            refine z_iald dX3_readClause_154 rfl (by omega) (by omega) ?_
            show ab_X _ _ _ _ (.int (iI (zv e142 8 0)) :: _) _ _
            have b1 := zv_R e142 8 0
            refine ab_aload_n (k := 1) dX3_readClause_155 rfl rfl ?_
            refine z_getP (b := 8) dX3_readClause_156 fX3_18 rfl rfl rfl ?_
            refine z_iconst dX3_readClause_159 ?_
            refine z_iald dX3_readClause_160 rfl (by omega) (by omega) ?_
            show ab_X _ _ _ _ (.int (iI (zv e142 8 1)) :: _) _ _
            have b2 := zv_R e142 8 1
            
            refine ab_callV (As := [.int (iI (zv e142 8 0)), .int (iI (zv e142 8 1))]) (rest := []) dX3_readClause_161 lX3_119 rfl (Nat.le_of_ble_eq_true rfl) (Nat.le_of_ble_eq_true rfl) rfl ?_
            refine c_addGateD (by omega) (by omega) (fun e161 se161 => ?_)
            show ab_X (d + 6) mX3_readClause 164 [(1, .int (iI (sg T z p))), (0, .ref 3)] [] e161 _
            refine ab_goto (tgt := 174) dX3_readClause_164 (by decide) ?_
            refine z_vret dX3_readClause_174 rfl ?_
            exact K0 _ _ (kcl_gw (by omega) (by omega) j142) n142 ⟨(((Sh.1.trans (smK sl4 (by decide))).trans (by rw [el127]; exact sm_zp (by decide))).trans (smK se142 (by decide))).trans (smK se161 (by decide)), TD_sm Se142 se161 (by decide)⟩
    · skip
      refine ab_aload_n (k := 1) dX3_readClause_58 rfl rfl ?_
      refine z_getP (b := 4) dX3_readClause_59 fX3_12 rfl rfl rfl ?_
      refine z_getI dX3_readClause_62 fX3_63 rfl (Or.inl rfl) ?_
      refine z_is (y := ((S.2.2.1.length : Nat) : Int)) ((sl4.1 4 3 (by decide)).trans Sh.2.2.1.2.1) ?_
      refine z_iconst dX3_readClause_65 ?_
      refine z_icmp_ge (tgt := 106) dX3_readClause_66 (by decide) (by omega) (by decide) (fun c66 => ?_) (fun c66 => ?_)
      · skip
        refine ab_iload_n (k := 0) dX3_readClause_106 rfl rfl ?_
        refine z_bipush dX3_readClause_107 (by decide) ?_
        refine z_icmp_ne (tgt := 167) dX3_readClause_109 (by decide) (by omega) (by decide) (fun c109 => ?_) (fun c109 => ?_)
        · skip
          refine ab_aload_n (k := 1) dX3_readClause_167 rfl rfl ?_
          refine z_getP (b := 1) dX3_readClause_168 fX3_26 rfl rfl rfl ?_
          refine ab_callV (As := []) (rest := []) dX3_readClause_171 lX3_66 rfl (Nat.le_of_ble_eq_true rfl) (Nat.le_of_ble_eq_true rfl) rfl ?_
          refine c_trefuse ht Sl4 (lk_lk _ _ _) (fun e171 se171 Se171 => ?_)
          show ab_X (d + 6) mX3_readClause 174 [(1, .int (iI (sg T z p))), (0, .ref 3)] [] e171 _
          refine z_vret dX3_readClause_174 rfl ?_
          rw [lk_lk] at Se171
          refine K0 _ _ (kcl_n ?_ ?_ ?_) (by omega) ⟨(Sh.1.trans (smK sl4 (by decide))).trans (smK se171 (by decide)), Se171⟩
          · first | omega | (rintro ⟨q1, q2⟩; rw [q2] at *; simp at *; omega) | (rintro ⟨q1, q2⟩; simp [q2] at c18)
          · omega
          · omega
        · skip
          refine ab_aload_n (k := 1) dX3_readClause_112 rfl rfl ?_
          refine z_getI dX3_readClause_113 fX3_49 rfl (Or.inl rfl) ?_
          refine z_is (y := ((S.2.2.2.length : Nat) : Int)) ((sl4.1 3 5 (by decide)).trans Sh.2.2.1.2.2.2.2.1) ?_
          refine z_iconst dX3_readClause_116 ?_
          refine z_icmp_ge (tgt := 167) dX3_readClause_117 (by decide) (by omega) (by decide) (fun c117 => ?_) (fun c117 => ?_)
          · skip
            refine ab_aload_n (k := 1) dX3_readClause_167 rfl rfl ?_
            refine z_getP (b := 1) dX3_readClause_168 fX3_26 rfl rfl rfl ?_
            refine ab_callV (As := []) (rest := []) dX3_readClause_171 lX3_66 rfl (Nat.le_of_ble_eq_true rfl) (Nat.le_of_ble_eq_true rfl) rfl ?_
            refine c_trefuse ht Sl4 (lk_lk _ _ _) (fun e171 se171 Se171 => ?_)
            show ab_X (d + 6) mX3_readClause 174 [(1, .int (iI (sg T z p))), (0, .ref 3)] [] e171 _
            refine z_vret dX3_readClause_174 rfl ?_
            rw [lk_lk] at Se171
            refine K0 _ _ (kcl_n ?_ ?_ ?_) (by omega) ⟨(Sh.1.trans (smK sl4 (by decide))).trans (smK se171 (by decide)), Se171⟩
            · first | omega | (rintro ⟨q1, q2⟩; rw [q2] at *; simp at *; omega) | (rintro ⟨q1, q2⟩; simp [q2] at c18)
            · omega
            · omega
          · skip
            refine ab_aload_n (k := 1) dX3_readClause_120 rfl rfl ?_
            refine ab_dup dX3_readClause_121 rfl ?_
            refine z_getI dX3_readClause_122 fX3_49 rfl (Or.inl rfl) ?_
            refine z_is (y := ((S.2.2.2.length : Nat) : Int)) ((sl4.1 3 5 (by decide)).trans Sh.2.2.1.2.2.2.2.1) ?_
            refine z_iconst dX3_readClause_125 ?_
            refine z_iadd dX3_readClause_126 ?_
            refine z_putI dX3_readClause_127 fX3_49 rfl rfl ?_
            obtain ⟨l127, el127⟩ : ∃ z : ab_H, z = zp l4 3 5 (((S.2.2.2.length : Nat) : Int) + 1) := ⟨_, rfl⟩
            rw [← el127]
            have Sl127 : TL T z l127 (lk T z p) := by rw [el127]; exact TL_sm Sl4 (sm_zp (l := [3]) (by decide)) (by decide) (by decide)
            refine ab_aload_n (k := 1) dX3_readClause_130 rfl rfl ?_
            refine ab_ldcs (j := 2) dX3_readClause_131 (by decide) ?_
            refine ab_gets (j := 6) dX3_readClause_133 (by decide) fX3_110 ?_
            refine ab_gets (j := 7) dX3_readClause_136 (by decide) fX3_113 ?_
            refine ab_gets (j := 8) dX3_readClause_139 (by decide) fX3_116 ?_
            refine ab_callV (As := [.ref (2000 + 2), .ref (1000 + 6), .ref (1000 + 7), .ref (1000 + 8)]) (rest := []) dX3_readClause_142 lX3_89 rfl (Nat.le_of_ble_eq_true rfl) (Nat.le_of_ble_eq_true rfl) rfl ?_
            have zin := sg_in (T := T) (z := z) (p := p) (by omega)
            refine c_items2 ht Sl127 zin (fun l142 p142 q142 v142 j142 b142 b2142 vk142 sl142 Sl142 V142 => ?_) (fun e142 w142 j142 n142 se142 Se142 v0142 v1142 => ?_)
            · skip
              show ab_X (d + 6) mX3_readClause 145 [(1, .int (iI (sg T z p))), (0, .ref 3)] [] l142 _
              refine ab_aload_n (k := 1) dX3_readClause_145 rfl rfl ?_
              refine z_getP (b := 4) dX3_readClause_146 fX3_12 rfl rfl rfl ?_
              refine ab_aload_n (k := 1) dX3_readClause_149 rfl rfl ?_
              refine z_getP (b := 8) dX3_readClause_150 fX3_18 rfl rfl rfl ?_
              refine z_iconst dX3_readClause_153 ?_
              refine z_iald dX3_readClause_154 rfl (by omega) (by omega) ?_
              show ab_X _ _ _ _ (.int (iI (zv l142 8 0)) :: _) _ _
              refine z_is (y := ((v142.1.toNat : Nat) : Int)) ((V142 0 (by decide)).trans (by have := vk142 0 (by decide); have e9 : g3 v142 0 = v142.1 := rfl; have e8 : kl 2 0 = 0 := rfl; omega)) ?_
              refine ab_aload_n (k := 1) dX3_readClause_155 rfl rfl ?_
              refine z_getP (b := 8) dX3_readClause_156 fX3_18 rfl rfl rfl ?_
              refine z_iconst dX3_readClause_159 ?_
              refine z_iald dX3_readClause_160 rfl (by omega) (by omega) ?_
              show ab_X _ _ _ _ (.int (iI (zv l142 8 1)) :: _) _ _
              refine z_is (y := ((v142.2.1.toNat : Nat) : Int)) ((V142 1 (by decide)).trans (by have := vk142 1 (by decide); have e9 : g3 v142 1 = v142.2.1 := rfl; have e8 : kl 2 1 = 1 := rfl; omega)) ?_
              
              refine ab_callV (As := [.int (iI ((v142.1.toNat : Nat) : Int)), .int (iI ((v142.2.1.toNat : Nat) : Int))]) (rest := []) dX3_readClause_161 lX3_119 rfl (Nat.le_of_ble_eq_true rfl) (Nat.le_of_ble_eq_true rfl) rfl ?_
              have wb0 := vk142 0 (by decide)
              have wb1 := vk142 1 (by decide)
              have f90 : g3 v142 0 = v142.1 := rfl
              have f91 : g3 v142 1 = v142.2.1 := rfl
              have f70 : km 2 0 = 19 := rfl
              have f71 : km 2 1 = 9 := rfl
              refine c_addGate (by omega) (by omega) (fun k161 sk161 => ?_)
              show ab_X (d + 6) mX3_readClause 164 [(1, .int (iI (sg T z p))), (0, .ref 3)] [] k161 _
              refine ab_goto (tgt := 174) dX3_readClause_164 (by decide) ?_
              refine z_vret dX3_readClause_174 rfl ?_
              have vb0 := vk142 0 (by decide)
              have vb1 := vk142 1 (by decide)
              have e90 : g3 v142 0 = v142.1 := rfl
              have e91 : g3 v142 1 = v142.2.1 := rfl
              have e80 : kl 2 0 = 0 := rfl
              have e81 : kl 2 1 = 1 := rfl
              have o : ∀ b j, b ≠ 1 → b ≠ 3 → b ≠ 7 → b ≠ 8 → b ≠ 9 → zv k161 b j = zv h b j := fun b j b1 b3 b7 b8 b9 => by rw [sk161.1.1 b j (by simp only [List.mem_cons, List.not_mem_nil, or_false]; omega), sl142.1 b j (by simp only [List.mem_cons, List.not_mem_nil, or_false]; omega), el127, zv_zp_a (by omega), sl4.1 b j (by simp only [List.mem_cons, List.not_mem_nil, or_false]; omega)]
              have hC := KC_g (a := v142.1.toNat) (l := v142.2.1.toNat) (h' := k161) Sh.2.2.1 (fun j => o 4 j (by decide) (by decide) (by decide) (by decide) (by decide)) (fun j => o 5 j (by decide) (by decide) (by decide) (by decide) (by decide)) (fun j => o 6 j (by decide) (by decide) (by decide) (by decide) (by decide)) (fun j => by rw [sk161.2 j, sl142.1 7 j (by decide), el127, zv_zp_a (by decide), sl4.1 7 j (by decide)]) (by rw [sk161.1.1 3 4 (by decide), sl142.1 3 4 (by decide), el127, zv_zp_ne (by decide), sl4.1 3 4 (by decide)]) (by rw [sk161.1.1 3 5 (by decide), sl142.1 3 5 (by decide), el127, zv_zp_s (by omega)])
              rw [show ((v142.1.toNat : Nat) : Int) = v142.1 by omega, show ((v142.2.1.toNat : Nat) : Int) = v142.2.1 by omega] at hC
              exact K1 _ _ _ _ (kcl_g (by omega) (by omega) j142) b142 (by have := lk_ge T z p; omega) ⟨(((Sh.1.trans (smK sl4 (by decide))).trans (by rw [el127]; exact sm_zp (by decide))).trans (smK sl142 (by decide))).trans (smK sk161.1 (by decide)), TL_sm Sl142 sk161.1 (by decide) (by decide), hC, kOK_g Sh.2.2.2 vk142 (by omega)⟩
            · skip
              show ab_X (d + 6) mX3_readClause 145 [(1, .int (iI (sg T z p))), (0, .ref 3)] [] e142 _
              refine ab_aload_n (k := 1) dX3_readClause_145 rfl rfl ?_
              refine z_getP (b := 4) dX3_readClause_146 fX3_12 rfl rfl rfl ?_
              refine ab_aload_n (k := 1) dX3_readClause_149 rfl rfl ?_
              refine z_getP (b := 8) dX3_readClause_150 fX3_18 rfl rfl rfl ?_
              refine z_iconst dX3_readClause_153 ?_
              refine z_iald dX3_readClause_154 rfl (by omega) (by omega) ?_
              show ab_X _ _ _ _ (.int (iI (zv e142 8 0)) :: _) _ _
              have b3 := zv_R e142 8 0
              refine ab_aload_n (k := 1) dX3_readClause_155 rfl rfl ?_
              refine z_getP (b := 8) dX3_readClause_156 fX3_18 rfl rfl rfl ?_
              refine z_iconst dX3_readClause_159 ?_
              refine z_iald dX3_readClause_160 rfl (by omega) (by omega) ?_
              show ab_X _ _ _ _ (.int (iI (zv e142 8 1)) :: _) _ _
              have b4 := zv_R e142 8 1
              
              refine ab_callV (As := [.int (iI (zv e142 8 0)), .int (iI (zv e142 8 1))]) (rest := []) dX3_readClause_161 lX3_119 rfl (Nat.le_of_ble_eq_true rfl) (Nat.le_of_ble_eq_true rfl) rfl ?_
              refine c_addGateD (by omega) (by omega) (fun e161 se161 => ?_)
              show ab_X (d + 6) mX3_readClause 164 [(1, .int (iI (sg T z p))), (0, .ref 3)] [] e161 _
              refine ab_goto (tgt := 174) dX3_readClause_164 (by decide) ?_
              refine z_vret dX3_readClause_174 rfl ?_
              exact K0 _ _ (kcl_gw (by omega) (by omega) j142) n142 ⟨(((Sh.1.trans (smK sl4 (by decide))).trans (by rw [el127]; exact sm_zp (by decide))).trans (smK se142 (by decide))).trans (smK se161 (by decide)), TD_sm Se142 se161 (by decide)⟩
      · skip
        refine ab_aload_n (k := 1) dX3_readClause_69 rfl rfl ?_
        refine ab_ldcs (j := 1) dX3_readClause_70 (by decide) ?_
        refine ab_gets (j := 3) dX3_readClause_72 (by decide) fX3_95 ?_
        refine ab_gets (j := 4) dX3_readClause_75 (by decide) fX3_98 ?_
        refine ab_gets (j := 5) dX3_readClause_78 (by decide) fX3_101 ?_
        refine ab_callV (As := [.ref (2000 + 1), .ref (1000 + 3), .ref (1000 + 4), .ref (1000 + 5)]) (rest := []) dX3_readClause_81 lX3_89 rfl (Nat.le_of_ble_eq_true rfl) (Nat.le_of_ble_eq_true rfl) rfl ?_
        have zin := sg_in (T := T) (z := z) (p := p) (by omega)
        refine c_items1 ht Sl4 zin (fun l81 p81 q81 v81 j81 b81 b281 vk81 sl81 Sl81 V81 => ?_) (fun e81 w81 j81 n81 se81 Se81 v081 v181 => ?_)
        · skip
          show ab_X (d + 6) mX3_readClause 84 [(1, .int (iI (sg T z p))), (0, .ref 3)] [] l81 _
          refine ab_aload_n (k := 1) dX3_readClause_84 rfl rfl ?_
          refine z_getP (b := 4) dX3_readClause_85 fX3_12 rfl rfl rfl ?_
          refine ab_aload_n (k := 1) dX3_readClause_88 rfl rfl ?_
          refine z_getP (b := 8) dX3_readClause_89 fX3_18 rfl rfl rfl ?_
          refine z_iconst dX3_readClause_92 ?_
          refine z_iald dX3_readClause_93 rfl (by omega) (by omega) ?_
          show ab_X _ _ _ _ (.int (iI (zv l81 8 0)) :: _) _ _
          refine z_is (y := v81.1) (V81 0 (by decide)) ?_
          refine ab_aload_n (k := 1) dX3_readClause_94 rfl rfl ?_
          refine z_getP (b := 8) dX3_readClause_95 fX3_18 rfl rfl rfl ?_
          refine z_iconst dX3_readClause_98 ?_
          refine z_iald dX3_readClause_99 rfl (by omega) (by omega) ?_
          show ab_X _ _ _ _ (.int (iI (zv l81 8 1)) :: _) _ _
          refine z_is (y := v81.2.1) (V81 1 (by decide)) ?_
          refine ab_callV (As := [.int (iI v81.1), .int (iI v81.2.1)]) (rest := []) dX3_readClause_100 lX3_104 rfl (Nat.le_of_ble_eq_true rfl) (Nat.le_of_ble_eq_true rfl) rfl ?_
          have hk4 : zv l81 4 3 = ((S.2.2.1.length : Nat) : Int) := by rw [sl81.1 4 3 (by decide), sl4.1 4 3 (by decide)]; exact Sh.2.2.1.2.1
          refine c_addSort hk4 (by omega) ?_
          obtain ⟨k100, ek100⟩ : ∃ x : ab_H, x = zp (zp (zp l81 5 S.2.2.1.length (v81.1)) 6 S.2.2.1.length (v81.2.1)) 4 3 ((S.2.2.1.length : Int) + 1) := ⟨_, rfl⟩
          rw [← ek100]
          show ab_X (d + 6) mX3_readClause 103 [(1, .int (iI (sg T z p))), (0, .ref 3)] [] k100 _
          refine ab_goto (tgt := 174) dX3_readClause_103 (by decide) ?_
          refine z_vret dX3_readClause_174 rfl ?_
          have vb0 := vk81 0 (by decide)
          have vb1 := vk81 1 (by decide)
          have e90 : g3 v81 0 = v81.1 := rfl
          have e91 : g3 v81 1 = v81.2.1 := rfl
          have e80 := km_b 1 0
          have e81 := km_b 1 1
          have e82 := kl_b 1 0
          have e83 := kl_b 1 1
          have o : ∀ b j, b ≠ 1 → b ≠ 8 → b ≠ 9 → zv l81 b j = zv h b j := fun b j b1 b8 b9 => by rw [sl81.1 b j (by simp only [List.mem_cons, List.not_mem_nil, or_false]; omega), sl4.1 b j (by simp only [List.mem_cons, List.not_mem_nil, or_false]; omega)]
          refine K1 _ _ _ _ (kcl_s (by omega) (by omega) j81) b81 (by have := lk_ge T z p; omega) ⟨((Sh.1.trans (smK sl4 (by decide))).trans (smK sl81 (by decide))).trans (by rw [ek100]; exact ((sm_zp (by decide)).trans (sm_zp (by decide))).trans (sm_zp (by decide))), ?_, KC_s Sh.2.2.1 (fun i hi => ?_) ?_ (fun i => ?_) (fun i => ?_) (fun i => ?_) (fun i => ?_), kOK_s Sh.2.2.2 vk81 (by omega)⟩
          · rw [ek100]; exact TL_sm (TL_sm (TL_sm Sl81 (sm_zp (l := [5]) (by decide)) (by decide) (by decide)) (sm_zp (l := [6]) (by decide)) (by decide) (by decide)) (sm_zp (l := [4]) (by decide)) (by decide) (by decide)
          · rw [ek100, zv_zp_ne (by omega), zv_zp_a (by decide), zv_zp_a (by decide), o 4 i (by decide) (by decide) (by decide)]
          · rw [ek100, zv_zp_s (by omega)]
          · rw [ek100, zv_zp_a (by decide), zv_zp_a (by decide), zv_zp (by omega), o 5 i (by decide) (by decide) (by decide)]
            by_cases q : i = S.2.2.1.length
            · rw [if_pos ⟨rfl, q⟩, if_pos q]
            · rw [if_neg (fun r => q r.2), if_neg q]
          · rw [ek100, zv_zp_a (by decide), zv_zp (by omega), zv_zp_a (by decide), o 6 i (by decide) (by decide) (by decide)]
            by_cases q : i = S.2.2.1.length
            · rw [if_pos ⟨rfl, q⟩, if_pos q]
            · rw [if_neg (fun r => q r.2), if_neg q]
          · rw [ek100, zv_zp_a (by decide), zv_zp_a (by decide), zv_zp_a (by decide), o 7 i (by decide) (by decide) (by decide)]
          · rw [ek100, zv_zp_a (by decide), zv_zp_a (by decide), zv_zp_a (by decide), o 3 i (by decide) (by decide) (by decide)]
        · skip
          show ab_X (d + 6) mX3_readClause 84 [(1, .int (iI (sg T z p))), (0, .ref 3)] [] e81 _
          refine ab_aload_n (k := 1) dX3_readClause_84 rfl rfl ?_
          refine z_getP (b := 4) dX3_readClause_85 fX3_12 rfl rfl rfl ?_
          refine ab_aload_n (k := 1) dX3_readClause_88 rfl rfl ?_
          refine z_getP (b := 8) dX3_readClause_89 fX3_18 rfl rfl rfl ?_
          refine z_iconst dX3_readClause_92 ?_
          refine z_iald dX3_readClause_93 rfl (by omega) (by omega) ?_
          show ab_X _ _ _ _ (.int (iI (zv e81 8 0)) :: _) _ _
          have b5 := zv_R e81 8 0
          refine ab_aload_n (k := 1) dX3_readClause_94 rfl rfl ?_
          refine z_getP (b := 8) dX3_readClause_95 fX3_18 rfl rfl rfl ?_
          refine z_iconst dX3_readClause_98 ?_
          refine z_iald dX3_readClause_99 rfl (by omega) (by omega) ?_
          show ab_X _ _ _ _ (.int (iI (zv e81 8 1)) :: _) _ _
          have b6 := zv_R e81 8 1
          refine ab_callV (As := [.int (iI (zv e81 8 0)), .int (iI (zv e81 8 1))]) (rest := []) dX3_readClause_100 lX3_104 rfl (Nat.le_of_ble_eq_true rfl) (Nat.le_of_ble_eq_true rfl) rfl ?_
          have hk4 : zv e81 4 3 = ((S.2.2.1.length : Nat) : Int) := by rw [se81.1 4 3 (by decide), sl4.1 4 3 (by decide)]; exact Sh.2.2.1.2.1
          refine c_addSort hk4 (by omega) ?_
          obtain ⟨e100, ee100⟩ : ∃ x : ab_H, x = zp (zp (zp e81 5 S.2.2.1.length (zv e81 8 0)) 6 S.2.2.1.length (zv e81 8 1)) 4 3 ((S.2.2.1.length : Int) + 1) := ⟨_, rfl⟩
          rw [← ee100]
          show ab_X (d + 6) mX3_readClause 103 [(1, .int (iI (sg T z p))), (0, .ref 3)] [] e100 _
          refine ab_goto (tgt := 174) dX3_readClause_103 (by decide) ?_
          refine z_vret dX3_readClause_174 rfl ?_
          exact K0 _ _ (kcl_sw (by omega) (by omega) j81) n81 ⟨((Sh.1.trans (smK sl4 (by decide))).trans (smK se81 (by decide))).trans (by rw [ee100]; exact ((sm_zp (by decide)).trans (sm_zp (by decide))).trans (sm_zp (by decide))), by rw [ee100]; exact TD_sm (TD_sm (TD_sm Se81 (sm_zp (l := [5]) (by decide)) (by decide)) (sm_zp (l := [6]) (by decide)) (by decide)) (sm_zp (l := [4]) (by decide)) (by decide)⟩
  · skip
    refine ab_aload_n (k := 1) dX3_readClause_14 rfl rfl ?_
    refine z_getI dX3_readClause_15 fX3_45 rfl (Or.inr rfl) ?_
    refine z_is (y := (if S.1 = true then 1 else 0 : Int)) ((sl4.1 3 4 (by decide)).trans Sh.2.2.1.2.2.2.1) ?_
    refine z_if_ne (tgt := 52) dX3_readClause_18 (by decide) (by omega) (fun c18 => ?_) (fun c18 => ?_)
    · skip
      refine ab_iload_n (k := 0) dX3_readClause_52 rfl rfl ?_
      refine z_bipush dX3_readClause_53 (by decide) ?_
      refine z_icmp_ne (tgt := 106) dX3_readClause_55 (by decide) (by omega) (by decide) (fun c55 => ?_) (fun c55 => ?_)
      · skip
        refine ab_iload_n (k := 0) dX3_readClause_106 rfl rfl ?_
        refine z_bipush dX3_readClause_107 (by decide) ?_
        refine z_icmp_ne (tgt := 167) dX3_readClause_109 (by decide) (by omega) (by decide) (fun c109 => ?_) (fun c109 => ?_)
        · skip
          refine ab_aload_n (k := 1) dX3_readClause_167 rfl rfl ?_
          refine z_getP (b := 1) dX3_readClause_168 fX3_26 rfl rfl rfl ?_
          refine ab_callV (As := []) (rest := []) dX3_readClause_171 lX3_66 rfl (Nat.le_of_ble_eq_true rfl) (Nat.le_of_ble_eq_true rfl) rfl ?_
          refine c_trefuse ht Sl4 (lk_lk _ _ _) (fun e171 se171 Se171 => ?_)
          show ab_X (d + 6) mX3_readClause 174 [(1, .int (iI (sg T z p))), (0, .ref 3)] [] e171 _
          refine z_vret dX3_readClause_174 rfl ?_
          rw [lk_lk] at Se171
          refine K0 _ _ (kcl_n ?_ ?_ ?_) (by omega) ⟨(Sh.1.trans (smK sl4 (by decide))).trans (smK se171 (by decide)), Se171⟩
          · first | omega | (rintro ⟨q1, q2⟩; rw [q2] at *; simp at *; omega) | (rintro ⟨q1, q2⟩; simp [q2] at c18)
          · omega
          · omega
        · skip
          refine ab_aload_n (k := 1) dX3_readClause_112 rfl rfl ?_
          refine z_getI dX3_readClause_113 fX3_49 rfl (Or.inl rfl) ?_
          refine z_is (y := ((S.2.2.2.length : Nat) : Int)) ((sl4.1 3 5 (by decide)).trans Sh.2.2.1.2.2.2.2.1) ?_
          refine z_iconst dX3_readClause_116 ?_
          refine z_icmp_ge (tgt := 167) dX3_readClause_117 (by decide) (by omega) (by decide) (fun c117 => ?_) (fun c117 => ?_)
          · skip
            refine ab_aload_n (k := 1) dX3_readClause_167 rfl rfl ?_
            refine z_getP (b := 1) dX3_readClause_168 fX3_26 rfl rfl rfl ?_
            refine ab_callV (As := []) (rest := []) dX3_readClause_171 lX3_66 rfl (Nat.le_of_ble_eq_true rfl) (Nat.le_of_ble_eq_true rfl) rfl ?_
            refine c_trefuse ht Sl4 (lk_lk _ _ _) (fun e171 se171 Se171 => ?_)
            show ab_X (d + 6) mX3_readClause 174 [(1, .int (iI (sg T z p))), (0, .ref 3)] [] e171 _
            refine z_vret dX3_readClause_174 rfl ?_
            rw [lk_lk] at Se171
            refine K0 _ _ (kcl_n ?_ ?_ ?_) (by omega) ⟨(Sh.1.trans (smK sl4 (by decide))).trans (smK se171 (by decide)), Se171⟩
            · first | omega | (rintro ⟨q1, q2⟩; rw [q2] at *; simp at *; omega) | (rintro ⟨q1, q2⟩; simp [q2] at c18)
            · omega
            · omega
          · skip
            refine ab_aload_n (k := 1) dX3_readClause_120 rfl rfl ?_
            refine ab_dup dX3_readClause_121 rfl ?_
            refine z_getI dX3_readClause_122 fX3_49 rfl (Or.inl rfl) ?_
            refine z_is (y := ((S.2.2.2.length : Nat) : Int)) ((sl4.1 3 5 (by decide)).trans Sh.2.2.1.2.2.2.2.1) ?_
            refine z_iconst dX3_readClause_125 ?_
            refine z_iadd dX3_readClause_126 ?_
            refine z_putI dX3_readClause_127 fX3_49 rfl rfl ?_
            obtain ⟨l127, el127⟩ : ∃ z : ab_H, z = zp l4 3 5 (((S.2.2.2.length : Nat) : Int) + 1) := ⟨_, rfl⟩
            rw [← el127]
            have Sl127 : TL T z l127 (lk T z p) := by rw [el127]; exact TL_sm Sl4 (sm_zp (l := [3]) (by decide)) (by decide) (by decide)
            refine ab_aload_n (k := 1) dX3_readClause_130 rfl rfl ?_
            refine ab_ldcs (j := 2) dX3_readClause_131 (by decide) ?_
            refine ab_gets (j := 6) dX3_readClause_133 (by decide) fX3_110 ?_
            refine ab_gets (j := 7) dX3_readClause_136 (by decide) fX3_113 ?_
            refine ab_gets (j := 8) dX3_readClause_139 (by decide) fX3_116 ?_
            refine ab_callV (As := [.ref (2000 + 2), .ref (1000 + 6), .ref (1000 + 7), .ref (1000 + 8)]) (rest := []) dX3_readClause_142 lX3_89 rfl (Nat.le_of_ble_eq_true rfl) (Nat.le_of_ble_eq_true rfl) rfl ?_
            have zin := sg_in (T := T) (z := z) (p := p) (by omega)
            refine c_items2 ht Sl127 zin (fun l142 p142 q142 v142 j142 b142 b2142 vk142 sl142 Sl142 V142 => ?_) (fun e142 w142 j142 n142 se142 Se142 v0142 v1142 => ?_)
            · skip
              show ab_X (d + 6) mX3_readClause 145 [(1, .int (iI (sg T z p))), (0, .ref 3)] [] l142 _
              refine ab_aload_n (k := 1) dX3_readClause_145 rfl rfl ?_
              refine z_getP (b := 4) dX3_readClause_146 fX3_12 rfl rfl rfl ?_
              refine ab_aload_n (k := 1) dX3_readClause_149 rfl rfl ?_
              refine z_getP (b := 8) dX3_readClause_150 fX3_18 rfl rfl rfl ?_
              refine z_iconst dX3_readClause_153 ?_
              refine z_iald dX3_readClause_154 rfl (by omega) (by omega) ?_
              show ab_X _ _ _ _ (.int (iI (zv l142 8 0)) :: _) _ _
              refine z_is (y := ((v142.1.toNat : Nat) : Int)) ((V142 0 (by decide)).trans (by have := vk142 0 (by decide); have e9 : g3 v142 0 = v142.1 := rfl; have e8 : kl 2 0 = 0 := rfl; omega)) ?_
              refine ab_aload_n (k := 1) dX3_readClause_155 rfl rfl ?_
              refine z_getP (b := 8) dX3_readClause_156 fX3_18 rfl rfl rfl ?_
              refine z_iconst dX3_readClause_159 ?_
              refine z_iald dX3_readClause_160 rfl (by omega) (by omega) ?_
              show ab_X _ _ _ _ (.int (iI (zv l142 8 1)) :: _) _ _
              refine z_is (y := ((v142.2.1.toNat : Nat) : Int)) ((V142 1 (by decide)).trans (by have := vk142 1 (by decide); have e9 : g3 v142 1 = v142.2.1 := rfl; have e8 : kl 2 1 = 1 := rfl; omega)) ?_
              
              refine ab_callV (As := [.int (iI ((v142.1.toNat : Nat) : Int)), .int (iI ((v142.2.1.toNat : Nat) : Int))]) (rest := []) dX3_readClause_161 lX3_119 rfl (Nat.le_of_ble_eq_true rfl) (Nat.le_of_ble_eq_true rfl) rfl ?_
              have wb0 := vk142 0 (by decide)
              have wb1 := vk142 1 (by decide)
              have f90 : g3 v142 0 = v142.1 := rfl
              have f91 : g3 v142 1 = v142.2.1 := rfl
              have f70 : km 2 0 = 19 := rfl
              have f71 : km 2 1 = 9 := rfl
              refine c_addGate (by omega) (by omega) (fun k161 sk161 => ?_)
              show ab_X (d + 6) mX3_readClause 164 [(1, .int (iI (sg T z p))), (0, .ref 3)] [] k161 _
              refine ab_goto (tgt := 174) dX3_readClause_164 (by decide) ?_
              refine z_vret dX3_readClause_174 rfl ?_
              have vb0 := vk142 0 (by decide)
              have vb1 := vk142 1 (by decide)
              have e90 : g3 v142 0 = v142.1 := rfl
              have e91 : g3 v142 1 = v142.2.1 := rfl
              have e80 : kl 2 0 = 0 := rfl
              have e81 : kl 2 1 = 1 := rfl
              have o : ∀ b j, b ≠ 1 → b ≠ 3 → b ≠ 7 → b ≠ 8 → b ≠ 9 → zv k161 b j = zv h b j := fun b j b1 b3 b7 b8 b9 => by rw [sk161.1.1 b j (by simp only [List.mem_cons, List.not_mem_nil, or_false]; omega), sl142.1 b j (by simp only [List.mem_cons, List.not_mem_nil, or_false]; omega), el127, zv_zp_a (by omega), sl4.1 b j (by simp only [List.mem_cons, List.not_mem_nil, or_false]; omega)]
              have hC := KC_g (a := v142.1.toNat) (l := v142.2.1.toNat) (h' := k161) Sh.2.2.1 (fun j => o 4 j (by decide) (by decide) (by decide) (by decide) (by decide)) (fun j => o 5 j (by decide) (by decide) (by decide) (by decide) (by decide)) (fun j => o 6 j (by decide) (by decide) (by decide) (by decide) (by decide)) (fun j => by rw [sk161.2 j, sl142.1 7 j (by decide), el127, zv_zp_a (by decide), sl4.1 7 j (by decide)]) (by rw [sk161.1.1 3 4 (by decide), sl142.1 3 4 (by decide), el127, zv_zp_ne (by decide), sl4.1 3 4 (by decide)]) (by rw [sk161.1.1 3 5 (by decide), sl142.1 3 5 (by decide), el127, zv_zp_s (by omega)])
              rw [show ((v142.1.toNat : Nat) : Int) = v142.1 by omega, show ((v142.2.1.toNat : Nat) : Int) = v142.2.1 by omega] at hC
              exact K1 _ _ _ _ (kcl_g (by omega) (by omega) j142) b142 (by have := lk_ge T z p; omega) ⟨(((Sh.1.trans (smK sl4 (by decide))).trans (by rw [el127]; exact sm_zp (by decide))).trans (smK sl142 (by decide))).trans (smK sk161.1 (by decide)), TL_sm Sl142 sk161.1 (by decide) (by decide), hC, kOK_g Sh.2.2.2 vk142 (by omega)⟩
            · skip
              show ab_X (d + 6) mX3_readClause 145 [(1, .int (iI (sg T z p))), (0, .ref 3)] [] e142 _
              refine ab_aload_n (k := 1) dX3_readClause_145 rfl rfl ?_
              refine z_getP (b := 4) dX3_readClause_146 fX3_12 rfl rfl rfl ?_
              refine ab_aload_n (k := 1) dX3_readClause_149 rfl rfl ?_
              refine z_getP (b := 8) dX3_readClause_150 fX3_18 rfl rfl rfl ?_
              refine z_iconst dX3_readClause_153 ?_
              refine z_iald dX3_readClause_154 rfl (by omega) (by omega) ?_
              show ab_X _ _ _ _ (.int (iI (zv e142 8 0)) :: _) _ _
              have b7 := zv_R e142 8 0
              refine ab_aload_n (k := 1) dX3_readClause_155 rfl rfl ?_
              refine z_getP (b := 8) dX3_readClause_156 fX3_18 rfl rfl rfl ?_
              refine z_iconst dX3_readClause_159 ?_
              refine z_iald dX3_readClause_160 rfl (by omega) (by omega) ?_
              show ab_X _ _ _ _ (.int (iI (zv e142 8 1)) :: _) _ _
              have b8 := zv_R e142 8 1
              
              refine ab_callV (As := [.int (iI (zv e142 8 0)), .int (iI (zv e142 8 1))]) (rest := []) dX3_readClause_161 lX3_119 rfl (Nat.le_of_ble_eq_true rfl) (Nat.le_of_ble_eq_true rfl) rfl ?_
              refine c_addGateD (by omega) (by omega) (fun e161 se161 => ?_)
              show ab_X (d + 6) mX3_readClause 164 [(1, .int (iI (sg T z p))), (0, .ref 3)] [] e161 _
              refine ab_goto (tgt := 174) dX3_readClause_164 (by decide) ?_
              refine z_vret dX3_readClause_174 rfl ?_
              exact K0 _ _ (kcl_gw (by omega) (by omega) j142) n142 ⟨(((Sh.1.trans (smK sl4 (by decide))).trans (by rw [el127]; exact sm_zp (by decide))).trans (smK se142 (by decide))).trans (smK se161 (by decide)), TD_sm Se142 se161 (by decide)⟩
      · skip
        refine ab_aload_n (k := 1) dX3_readClause_58 rfl rfl ?_
        refine z_getP (b := 4) dX3_readClause_59 fX3_12 rfl rfl rfl ?_
        refine z_getI dX3_readClause_62 fX3_63 rfl (Or.inl rfl) ?_
        refine z_is (y := ((S.2.2.1.length : Nat) : Int)) ((sl4.1 4 3 (by decide)).trans Sh.2.2.1.2.1) ?_
        refine z_iconst dX3_readClause_65 ?_
        refine z_icmp_ge (tgt := 106) dX3_readClause_66 (by decide) (by omega) (by decide) (fun c66 => ?_) (fun c66 => ?_)
        · skip
          refine ab_iload_n (k := 0) dX3_readClause_106 rfl rfl ?_
          refine z_bipush dX3_readClause_107 (by decide) ?_
          refine z_icmp_ne (tgt := 167) dX3_readClause_109 (by decide) (by omega) (by decide) (fun c109 => ?_) (fun c109 => ?_)
          · skip
            refine ab_aload_n (k := 1) dX3_readClause_167 rfl rfl ?_
            refine z_getP (b := 1) dX3_readClause_168 fX3_26 rfl rfl rfl ?_
            refine ab_callV (As := []) (rest := []) dX3_readClause_171 lX3_66 rfl (Nat.le_of_ble_eq_true rfl) (Nat.le_of_ble_eq_true rfl) rfl ?_
            refine c_trefuse ht Sl4 (lk_lk _ _ _) (fun e171 se171 Se171 => ?_)
            show ab_X (d + 6) mX3_readClause 174 [(1, .int (iI (sg T z p))), (0, .ref 3)] [] e171 _
            refine z_vret dX3_readClause_174 rfl ?_
            rw [lk_lk] at Se171
            refine K0 _ _ (kcl_n ?_ ?_ ?_) (by omega) ⟨(Sh.1.trans (smK sl4 (by decide))).trans (smK se171 (by decide)), Se171⟩
            · first | omega | (rintro ⟨q1, q2⟩; rw [q2] at *; simp at *; omega) | (rintro ⟨q1, q2⟩; simp [q2] at c18)
            · omega
            · omega
          · skip
            refine ab_aload_n (k := 1) dX3_readClause_112 rfl rfl ?_
            refine z_getI dX3_readClause_113 fX3_49 rfl (Or.inl rfl) ?_
            refine z_is (y := ((S.2.2.2.length : Nat) : Int)) ((sl4.1 3 5 (by decide)).trans Sh.2.2.1.2.2.2.2.1) ?_
            refine z_iconst dX3_readClause_116 ?_
            refine z_icmp_ge (tgt := 167) dX3_readClause_117 (by decide) (by omega) (by decide) (fun c117 => ?_) (fun c117 => ?_)
            · skip
              refine ab_aload_n (k := 1) dX3_readClause_167 rfl rfl ?_
              refine z_getP (b := 1) dX3_readClause_168 fX3_26 rfl rfl rfl ?_
              refine ab_callV (As := []) (rest := []) dX3_readClause_171 lX3_66 rfl (Nat.le_of_ble_eq_true rfl) (Nat.le_of_ble_eq_true rfl) rfl ?_
              refine c_trefuse ht Sl4 (lk_lk _ _ _) (fun e171 se171 Se171 => ?_)
              show ab_X (d + 6) mX3_readClause 174 [(1, .int (iI (sg T z p))), (0, .ref 3)] [] e171 _
              refine z_vret dX3_readClause_174 rfl ?_
              rw [lk_lk] at Se171
              refine K0 _ _ (kcl_n ?_ ?_ ?_) (by omega) ⟨(Sh.1.trans (smK sl4 (by decide))).trans (smK se171 (by decide)), Se171⟩
              · first | omega | (rintro ⟨q1, q2⟩; rw [q2] at *; simp at *; omega) | (rintro ⟨q1, q2⟩; simp [q2] at c18)
              · omega
              · omega
            · skip
              refine ab_aload_n (k := 1) dX3_readClause_120 rfl rfl ?_
              refine ab_dup dX3_readClause_121 rfl ?_
              refine z_getI dX3_readClause_122 fX3_49 rfl (Or.inl rfl) ?_
              refine z_is (y := ((S.2.2.2.length : Nat) : Int)) ((sl4.1 3 5 (by decide)).trans Sh.2.2.1.2.2.2.2.1) ?_
              refine z_iconst dX3_readClause_125 ?_
              refine z_iadd dX3_readClause_126 ?_
              refine z_putI dX3_readClause_127 fX3_49 rfl rfl ?_
              obtain ⟨l127, el127⟩ : ∃ z : ab_H, z = zp l4 3 5 (((S.2.2.2.length : Nat) : Int) + 1) := ⟨_, rfl⟩
              rw [← el127]
              have Sl127 : TL T z l127 (lk T z p) := by rw [el127]; exact TL_sm Sl4 (sm_zp (l := [3]) (by decide)) (by decide) (by decide)
              refine ab_aload_n (k := 1) dX3_readClause_130 rfl rfl ?_
              refine ab_ldcs (j := 2) dX3_readClause_131 (by decide) ?_
              refine ab_gets (j := 6) dX3_readClause_133 (by decide) fX3_110 ?_
              refine ab_gets (j := 7) dX3_readClause_136 (by decide) fX3_113 ?_
              refine ab_gets (j := 8) dX3_readClause_139 (by decide) fX3_116 ?_
              refine ab_callV (As := [.ref (2000 + 2), .ref (1000 + 6), .ref (1000 + 7), .ref (1000 + 8)]) (rest := []) dX3_readClause_142 lX3_89 rfl (Nat.le_of_ble_eq_true rfl) (Nat.le_of_ble_eq_true rfl) rfl ?_
              have zin := sg_in (T := T) (z := z) (p := p) (by omega)
              refine c_items2 ht Sl127 zin (fun l142 p142 q142 v142 j142 b142 b2142 vk142 sl142 Sl142 V142 => ?_) (fun e142 w142 j142 n142 se142 Se142 v0142 v1142 => ?_)
              · skip
                show ab_X (d + 6) mX3_readClause 145 [(1, .int (iI (sg T z p))), (0, .ref 3)] [] l142 _
                refine ab_aload_n (k := 1) dX3_readClause_145 rfl rfl ?_
                refine z_getP (b := 4) dX3_readClause_146 fX3_12 rfl rfl rfl ?_
                refine ab_aload_n (k := 1) dX3_readClause_149 rfl rfl ?_
                refine z_getP (b := 8) dX3_readClause_150 fX3_18 rfl rfl rfl ?_
                refine z_iconst dX3_readClause_153 ?_
                refine z_iald dX3_readClause_154 rfl (by omega) (by omega) ?_
                show ab_X _ _ _ _ (.int (iI (zv l142 8 0)) :: _) _ _
                refine z_is (y := ((v142.1.toNat : Nat) : Int)) ((V142 0 (by decide)).trans (by have := vk142 0 (by decide); have e9 : g3 v142 0 = v142.1 := rfl; have e8 : kl 2 0 = 0 := rfl; omega)) ?_
                refine ab_aload_n (k := 1) dX3_readClause_155 rfl rfl ?_
                refine z_getP (b := 8) dX3_readClause_156 fX3_18 rfl rfl rfl ?_
                refine z_iconst dX3_readClause_159 ?_
                refine z_iald dX3_readClause_160 rfl (by omega) (by omega) ?_
                show ab_X _ _ _ _ (.int (iI (zv l142 8 1)) :: _) _ _
                refine z_is (y := ((v142.2.1.toNat : Nat) : Int)) ((V142 1 (by decide)).trans (by have := vk142 1 (by decide); have e9 : g3 v142 1 = v142.2.1 := rfl; have e8 : kl 2 1 = 1 := rfl; omega)) ?_
                
                refine ab_callV (As := [.int (iI ((v142.1.toNat : Nat) : Int)), .int (iI ((v142.2.1.toNat : Nat) : Int))]) (rest := []) dX3_readClause_161 lX3_119 rfl (Nat.le_of_ble_eq_true rfl) (Nat.le_of_ble_eq_true rfl) rfl ?_
                have wb0 := vk142 0 (by decide)
                have wb1 := vk142 1 (by decide)
                have f90 : g3 v142 0 = v142.1 := rfl
                have f91 : g3 v142 1 = v142.2.1 := rfl
                have f70 : km 2 0 = 19 := rfl
                have f71 : km 2 1 = 9 := rfl
                refine c_addGate (by omega) (by omega) (fun k161 sk161 => ?_)
                show ab_X (d + 6) mX3_readClause 164 [(1, .int (iI (sg T z p))), (0, .ref 3)] [] k161 _
                refine ab_goto (tgt := 174) dX3_readClause_164 (by decide) ?_
                refine z_vret dX3_readClause_174 rfl ?_
                have vb0 := vk142 0 (by decide)
                have vb1 := vk142 1 (by decide)
                have e90 : g3 v142 0 = v142.1 := rfl
                have e91 : g3 v142 1 = v142.2.1 := rfl
                have e80 : kl 2 0 = 0 := rfl
                have e81 : kl 2 1 = 1 := rfl
                have o : ∀ b j, b ≠ 1 → b ≠ 3 → b ≠ 7 → b ≠ 8 → b ≠ 9 → zv k161 b j = zv h b j := fun b j b1 b3 b7 b8 b9 => by rw [sk161.1.1 b j (by simp only [List.mem_cons, List.not_mem_nil, or_false]; omega), sl142.1 b j (by simp only [List.mem_cons, List.not_mem_nil, or_false]; omega), el127, zv_zp_a (by omega), sl4.1 b j (by simp only [List.mem_cons, List.not_mem_nil, or_false]; omega)]
                have hC := KC_g (a := v142.1.toNat) (l := v142.2.1.toNat) (h' := k161) Sh.2.2.1 (fun j => o 4 j (by decide) (by decide) (by decide) (by decide) (by decide)) (fun j => o 5 j (by decide) (by decide) (by decide) (by decide) (by decide)) (fun j => o 6 j (by decide) (by decide) (by decide) (by decide) (by decide)) (fun j => by rw [sk161.2 j, sl142.1 7 j (by decide), el127, zv_zp_a (by decide), sl4.1 7 j (by decide)]) (by rw [sk161.1.1 3 4 (by decide), sl142.1 3 4 (by decide), el127, zv_zp_ne (by decide), sl4.1 3 4 (by decide)]) (by rw [sk161.1.1 3 5 (by decide), sl142.1 3 5 (by decide), el127, zv_zp_s (by omega)])
                rw [show ((v142.1.toNat : Nat) : Int) = v142.1 by omega, show ((v142.2.1.toNat : Nat) : Int) = v142.2.1 by omega] at hC
                exact K1 _ _ _ _ (kcl_g (by omega) (by omega) j142) b142 (by have := lk_ge T z p; omega) ⟨(((Sh.1.trans (smK sl4 (by decide))).trans (by rw [el127]; exact sm_zp (by decide))).trans (smK sl142 (by decide))).trans (smK sk161.1 (by decide)), TL_sm Sl142 sk161.1 (by decide) (by decide), hC, kOK_g Sh.2.2.2 vk142 (by omega)⟩
              · skip
                show ab_X (d + 6) mX3_readClause 145 [(1, .int (iI (sg T z p))), (0, .ref 3)] [] e142 _
                refine ab_aload_n (k := 1) dX3_readClause_145 rfl rfl ?_
                refine z_getP (b := 4) dX3_readClause_146 fX3_12 rfl rfl rfl ?_
                refine ab_aload_n (k := 1) dX3_readClause_149 rfl rfl ?_
                refine z_getP (b := 8) dX3_readClause_150 fX3_18 rfl rfl rfl ?_
                refine z_iconst dX3_readClause_153 ?_
                refine z_iald dX3_readClause_154 rfl (by omega) (by omega) ?_
                show ab_X _ _ _ _ (.int (iI (zv e142 8 0)) :: _) _ _
                have b9 := zv_R e142 8 0
                refine ab_aload_n (k := 1) dX3_readClause_155 rfl rfl ?_
                refine z_getP (b := 8) dX3_readClause_156 fX3_18 rfl rfl rfl ?_
                refine z_iconst dX3_readClause_159 ?_
                refine z_iald dX3_readClause_160 rfl (by omega) (by omega) ?_
                show ab_X _ _ _ _ (.int (iI (zv e142 8 1)) :: _) _ _
                have b10 := zv_R e142 8 1
                
                refine ab_callV (As := [.int (iI (zv e142 8 0)), .int (iI (zv e142 8 1))]) (rest := []) dX3_readClause_161 lX3_119 rfl (Nat.le_of_ble_eq_true rfl) (Nat.le_of_ble_eq_true rfl) rfl ?_
                refine c_addGateD (by omega) (by omega) (fun e161 se161 => ?_)
                show ab_X (d + 6) mX3_readClause 164 [(1, .int (iI (sg T z p))), (0, .ref 3)] [] e161 _
                refine ab_goto (tgt := 174) dX3_readClause_164 (by decide) ?_
                refine z_vret dX3_readClause_174 rfl ?_
                exact K0 _ _ (kcl_gw (by omega) (by omega) j142) n142 ⟨(((Sh.1.trans (smK sl4 (by decide))).trans (by rw [el127]; exact sm_zp (by decide))).trans (smK se142 (by decide))).trans (smK se161 (by decide)), TD_sm Se142 se161 (by decide)⟩
        · skip
          refine ab_aload_n (k := 1) dX3_readClause_69 rfl rfl ?_
          refine ab_ldcs (j := 1) dX3_readClause_70 (by decide) ?_
          refine ab_gets (j := 3) dX3_readClause_72 (by decide) fX3_95 ?_
          refine ab_gets (j := 4) dX3_readClause_75 (by decide) fX3_98 ?_
          refine ab_gets (j := 5) dX3_readClause_78 (by decide) fX3_101 ?_
          refine ab_callV (As := [.ref (2000 + 1), .ref (1000 + 3), .ref (1000 + 4), .ref (1000 + 5)]) (rest := []) dX3_readClause_81 lX3_89 rfl (Nat.le_of_ble_eq_true rfl) (Nat.le_of_ble_eq_true rfl) rfl ?_
          have zin := sg_in (T := T) (z := z) (p := p) (by omega)
          refine c_items1 ht Sl4 zin (fun l81 p81 q81 v81 j81 b81 b281 vk81 sl81 Sl81 V81 => ?_) (fun e81 w81 j81 n81 se81 Se81 v081 v181 => ?_)
          · skip
            show ab_X (d + 6) mX3_readClause 84 [(1, .int (iI (sg T z p))), (0, .ref 3)] [] l81 _
            refine ab_aload_n (k := 1) dX3_readClause_84 rfl rfl ?_
            refine z_getP (b := 4) dX3_readClause_85 fX3_12 rfl rfl rfl ?_
            refine ab_aload_n (k := 1) dX3_readClause_88 rfl rfl ?_
            refine z_getP (b := 8) dX3_readClause_89 fX3_18 rfl rfl rfl ?_
            refine z_iconst dX3_readClause_92 ?_
            refine z_iald dX3_readClause_93 rfl (by omega) (by omega) ?_
            show ab_X _ _ _ _ (.int (iI (zv l81 8 0)) :: _) _ _
            refine z_is (y := v81.1) (V81 0 (by decide)) ?_
            refine ab_aload_n (k := 1) dX3_readClause_94 rfl rfl ?_
            refine z_getP (b := 8) dX3_readClause_95 fX3_18 rfl rfl rfl ?_
            refine z_iconst dX3_readClause_98 ?_
            refine z_iald dX3_readClause_99 rfl (by omega) (by omega) ?_
            show ab_X _ _ _ _ (.int (iI (zv l81 8 1)) :: _) _ _
            refine z_is (y := v81.2.1) (V81 1 (by decide)) ?_
            refine ab_callV (As := [.int (iI v81.1), .int (iI v81.2.1)]) (rest := []) dX3_readClause_100 lX3_104 rfl (Nat.le_of_ble_eq_true rfl) (Nat.le_of_ble_eq_true rfl) rfl ?_
            have hk4 : zv l81 4 3 = ((S.2.2.1.length : Nat) : Int) := by rw [sl81.1 4 3 (by decide), sl4.1 4 3 (by decide)]; exact Sh.2.2.1.2.1
            refine c_addSort hk4 (by omega) ?_
            obtain ⟨k100, ek100⟩ : ∃ x : ab_H, x = zp (zp (zp l81 5 S.2.2.1.length (v81.1)) 6 S.2.2.1.length (v81.2.1)) 4 3 ((S.2.2.1.length : Int) + 1) := ⟨_, rfl⟩
            rw [← ek100]
            show ab_X (d + 6) mX3_readClause 103 [(1, .int (iI (sg T z p))), (0, .ref 3)] [] k100 _
            refine ab_goto (tgt := 174) dX3_readClause_103 (by decide) ?_
            refine z_vret dX3_readClause_174 rfl ?_
            have vb0 := vk81 0 (by decide)
            have vb1 := vk81 1 (by decide)
            have e90 : g3 v81 0 = v81.1 := rfl
            have e91 : g3 v81 1 = v81.2.1 := rfl
            have e80 := km_b 1 0
            have e81 := km_b 1 1
            have e82 := kl_b 1 0
            have e83 := kl_b 1 1
            have o : ∀ b j, b ≠ 1 → b ≠ 8 → b ≠ 9 → zv l81 b j = zv h b j := fun b j b1 b8 b9 => by rw [sl81.1 b j (by simp only [List.mem_cons, List.not_mem_nil, or_false]; omega), sl4.1 b j (by simp only [List.mem_cons, List.not_mem_nil, or_false]; omega)]
            refine K1 _ _ _ _ (kcl_s (by omega) (by omega) j81) b81 (by have := lk_ge T z p; omega) ⟨((Sh.1.trans (smK sl4 (by decide))).trans (smK sl81 (by decide))).trans (by rw [ek100]; exact ((sm_zp (by decide)).trans (sm_zp (by decide))).trans (sm_zp (by decide))), ?_, KC_s Sh.2.2.1 (fun i hi => ?_) ?_ (fun i => ?_) (fun i => ?_) (fun i => ?_) (fun i => ?_), kOK_s Sh.2.2.2 vk81 (by omega)⟩
            · rw [ek100]; exact TL_sm (TL_sm (TL_sm Sl81 (sm_zp (l := [5]) (by decide)) (by decide) (by decide)) (sm_zp (l := [6]) (by decide)) (by decide) (by decide)) (sm_zp (l := [4]) (by decide)) (by decide) (by decide)
            · rw [ek100, zv_zp_ne (by omega), zv_zp_a (by decide), zv_zp_a (by decide), o 4 i (by decide) (by decide) (by decide)]
            · rw [ek100, zv_zp_s (by omega)]
            · rw [ek100, zv_zp_a (by decide), zv_zp_a (by decide), zv_zp (by omega), o 5 i (by decide) (by decide) (by decide)]
              by_cases q : i = S.2.2.1.length
              · rw [if_pos ⟨rfl, q⟩, if_pos q]
              · rw [if_neg (fun r => q r.2), if_neg q]
            · rw [ek100, zv_zp_a (by decide), zv_zp (by omega), zv_zp_a (by decide), o 6 i (by decide) (by decide) (by decide)]
              by_cases q : i = S.2.2.1.length
              · rw [if_pos ⟨rfl, q⟩, if_pos q]
              · rw [if_neg (fun r => q r.2), if_neg q]
            · rw [ek100, zv_zp_a (by decide), zv_zp_a (by decide), zv_zp_a (by decide), o 7 i (by decide) (by decide) (by decide)]
            · rw [ek100, zv_zp_a (by decide), zv_zp_a (by decide), zv_zp_a (by decide), o 3 i (by decide) (by decide) (by decide)]
          · skip
            show ab_X (d + 6) mX3_readClause 84 [(1, .int (iI (sg T z p))), (0, .ref 3)] [] e81 _
            refine ab_aload_n (k := 1) dX3_readClause_84 rfl rfl ?_
            refine z_getP (b := 4) dX3_readClause_85 fX3_12 rfl rfl rfl ?_
            refine ab_aload_n (k := 1) dX3_readClause_88 rfl rfl ?_
            refine z_getP (b := 8) dX3_readClause_89 fX3_18 rfl rfl rfl ?_
            refine z_iconst dX3_readClause_92 ?_
            refine z_iald dX3_readClause_93 rfl (by omega) (by omega) ?_
            show ab_X _ _ _ _ (.int (iI (zv e81 8 0)) :: _) _ _
            have b11 := zv_R e81 8 0
            refine ab_aload_n (k := 1) dX3_readClause_94 rfl rfl ?_
            refine z_getP (b := 8) dX3_readClause_95 fX3_18 rfl rfl rfl ?_
            refine z_iconst dX3_readClause_98 ?_
            refine z_iald dX3_readClause_99 rfl (by omega) (by omega) ?_
            show ab_X _ _ _ _ (.int (iI (zv e81 8 1)) :: _) _ _
            have b12 := zv_R e81 8 1
            refine ab_callV (As := [.int (iI (zv e81 8 0)), .int (iI (zv e81 8 1))]) (rest := []) dX3_readClause_100 lX3_104 rfl (Nat.le_of_ble_eq_true rfl) (Nat.le_of_ble_eq_true rfl) rfl ?_
            have hk4 : zv e81 4 3 = ((S.2.2.1.length : Nat) : Int) := by rw [se81.1 4 3 (by decide), sl4.1 4 3 (by decide)]; exact Sh.2.2.1.2.1
            refine c_addSort hk4 (by omega) ?_
            obtain ⟨e100, ee100⟩ : ∃ x : ab_H, x = zp (zp (zp e81 5 S.2.2.1.length (zv e81 8 0)) 6 S.2.2.1.length (zv e81 8 1)) 4 3 ((S.2.2.1.length : Int) + 1) := ⟨_, rfl⟩
            rw [← ee100]
            show ab_X (d + 6) mX3_readClause 103 [(1, .int (iI (sg T z p))), (0, .ref 3)] [] e100 _
            refine ab_goto (tgt := 174) dX3_readClause_103 (by decide) ?_
            refine z_vret dX3_readClause_174 rfl ?_
            exact K0 _ _ (kcl_sw (by omega) (by omega) j81) n81 ⟨((Sh.1.trans (smK sl4 (by decide))).trans (smK se81 (by decide))).trans (by rw [ee100]; exact ((sm_zp (by decide)).trans (sm_zp (by decide))).trans (sm_zp (by decide))), by rw [ee100]; exact TD_sm (TD_sm (TD_sm Se81 (sm_zp (l := [5]) (by decide)) (by decide)) (sm_zp (l := [6]) (by decide)) (by decide)) (sm_zp (l := [4]) (by decide)) (by decide)⟩
    · skip
      refine ab_aload_n (k := 1) dX3_readClause_21 rfl rfl ?_
      refine z_iconst dX3_readClause_22 ?_
      refine z_putZ dX3_readClause_23 fX3_45 rfl rfl (Or.inr rfl) ?_
      obtain ⟨l23, el23⟩ : ∃ z : ab_H, z = zp l4 3 4 1 := ⟨_, rfl⟩
      rw [← el23]
      have hkt : S.1 = false := hkf.mp (by omega)
      have Sl23 : TL T z l23 (lk T z p) := by rw [el23]; exact TL_sm Sl4 (sm_zp (l := [3]) (by decide)) (by decide) (by decide)
      refine ab_aload_n (k := 1) dX3_readClause_26 rfl rfl ?_
      refine ab_ldcs (j := 0) dX3_readClause_27 (by decide) ?_
      refine ab_gets (j := 1) dX3_readClause_29 (by decide) fX3_83 ?_
      refine ab_gets (j := 2) dX3_readClause_32 (by decide) fX3_86 ?_
      refine ab_gets (j := 0) dX3_readClause_35 (by decide) fX3_38 ?_
      refine ab_callV (As := [.ref (2000 + 0), .ref (1000 + 1), .ref (1000 + 2), .ref (1000 + 0)]) (rest := []) dX3_readClause_38 lX3_89 rfl (Nat.le_of_ble_eq_true rfl) (Nat.le_of_ble_eq_true rfl) rfl ?_
      have zin := sg_in (T := T) (z := z) (p := p) (by omega)
      refine c_items0 ht Sl23 zin (fun l38 p38 q38 v38 j38 b38 b238 vk38 sl38 Sl38 V38 => ?_) (fun e38 w38 j38 n38 se38 Se38 v038 v138 => ?_)
      · skip
        show ab_X (d + 6) mX3_readClause 41 [(1, .int (iI (sg T z p))), (0, .ref 3)] [] l38 _
        refine ab_aload_n (k := 1) dX3_readClause_41 rfl rfl ?_
        refine ab_aload_n (k := 1) dX3_readClause_42 rfl rfl ?_
        refine z_getP (b := 8) dX3_readClause_43 fX3_18 rfl rfl rfl ?_
        refine ab_callV (As := [.ref 8]) (rest := []) dX3_readClause_46 lX3_41 rfl (Nat.le_of_ble_eq_true rfl) (Nat.le_of_ble_eq_true rfl) rfl ?_
        refine c_setK8 (fun k46 sk46 uk46 tk46 => ?_)
        show ab_X (d + 6) mX3_readClause 49 [(1, .int (iI (sg T z p))), (0, .ref 3)] [] k46 _
        refine ab_goto (tgt := 174) dX3_readClause_49 (by decide) ?_
        refine z_vret dX3_readClause_174 rfl ?_
        refine K1 _ _ _ _ (kcl_k (by omega) hkt j38) b38 (by have := lk_ge T z p; omega) ⟨(((Sh.1.trans (smK sl4 (by decide))).trans (by rw [el23]; exact sm_zp (by decide))).trans (smK sl38 (by decide))).trans (smK sk46 (by decide)), TL_sm Sl38 sk46 (by decide) (by decide), KC_k Sh.2.2.1 (fun i hi => (uk46 i hi).trans (V38 i hi)) ?_ (fun b j hb => ?_) ?_ ?_, kOK_k Sh.2.2.2 vk38⟩
        · rw [tk46, sl38.1 4 3 (by decide), el23, zv_zp_a (by decide), sl4.1 4 3 (by decide)]
        · rw [sk46.1 b j (by simp only [List.mem_cons, List.not_mem_nil, or_false]; omega), sl38.1 b j (by simp only [List.mem_cons, List.not_mem_nil, or_false]; omega), el23, zv_zp_a (by omega), sl4.1 b j (by simp only [List.mem_cons, List.not_mem_nil, or_false]; omega)]
        · rw [sk46.1 3 4 (by decide), sl38.1 3 4 (by decide), el23, zv_zp_s (by decide)]
        · rw [sk46.1 3 5 (by decide), sl38.1 3 5 (by decide), el23, zv_zp_ne (by decide), sl4.1 3 5 (by decide)]
      · skip
        show ab_X (d + 6) mX3_readClause 41 [(1, .int (iI (sg T z p))), (0, .ref 3)] [] e38 _
        refine ab_aload_n (k := 1) dX3_readClause_41 rfl rfl ?_
        refine ab_aload_n (k := 1) dX3_readClause_42 rfl rfl ?_
        refine z_getP (b := 8) dX3_readClause_43 fX3_18 rfl rfl rfl ?_
        refine ab_callV (As := [.ref 8]) (rest := []) dX3_readClause_46 lX3_41 rfl (Nat.le_of_ble_eq_true rfl) (Nat.le_of_ble_eq_true rfl) rfl ?_
        refine c_setK8 (fun e46 se46 ue46 te46 => ?_)
        show ab_X (d + 6) mX3_readClause 49 [(1, .int (iI (sg T z p))), (0, .ref 3)] [] e46 _
        refine ab_goto (tgt := 174) dX3_readClause_49 (by decide) ?_
        refine z_vret dX3_readClause_174 rfl ?_
        exact K0 _ _ (kcl_kw (by omega) hkt j38) n38 ⟨(((Sh.1.trans (smK sl4 (by decide))).trans (by rw [el23]; exact sm_zp (by decide))).trans (smK se38 (by decide))).trans (smK se46 (by decide)), TD_sm Se38 se46 (by decide)⟩
theorem c_kclauseD {d : Nat} {h : ab_H} {Q : ab_Q} {z : Nat} {w : Int}  (hz : z ≤ 160) (Seh : TD z h w) (K : ∀ h', sm [1] h h' → TD z h' w → Q none h') : ab_X (d + 6) mX3_readClause 0 (lv_args 0 [.ref 3]) [] h Q := by
  show ab_X (d + 6) mX3_readClause 0 [(0, .ref 3)] [] h Q
  refine ab_aload_n (k := 0) dX3_readClause_0 rfl rfl ?_
  refine z_getP (b := 1) dX3_readClause_1 fX3_26 rfl rfl rfl ?_
  refine ab_callV (As := []) (rest := []) dX3_readClause_4 lX3_56 rfl (Nat.le_of_ble_eq_true rfl) (Nat.le_of_ble_eq_true rfl) rfl ?_
  refine c_dlook hz Seh (fun e4 se4 Se4 => ?_)
  show ab_X (d + 6) mX3_readClause 7 [(0, .ref 3)] [.int (iI (-1))] e4 _
  refine ab_istore_n (ls' := [(1, .int (iI (-1))), (0, .ref 3)]) dX3_readClause_7 rfl (by decide) rfl ?_
  refine ab_iload_n (k := 0) dX3_readClause_8 rfl rfl ?_
  refine z_bipush dX3_readClause_9 (by decide) ?_
  refine z_icmp_ne (tgt := 52) dX3_readClause_11 (by decide) (by decide) (by decide) (fun _ => ?_) (fun c11 => absurd c11 (by decide))
  refine ab_iload_n (k := 0) dX3_readClause_52 rfl rfl ?_
  refine z_bipush dX3_readClause_53 (by decide) ?_
  refine z_icmp_ne (tgt := 106) dX3_readClause_55 (by decide) (by decide) (by decide) (fun _ => ?_) (fun c55 => absurd c55 (by decide))
  refine ab_iload_n (k := 0) dX3_readClause_106 rfl rfl ?_
  refine z_bipush dX3_readClause_107 (by decide) ?_
  refine z_icmp_ne (tgt := 167) dX3_readClause_109 (by decide) (by decide) (by decide) (fun _ => ?_) (fun c109 => absurd c109 (by decide))
  refine ab_aload_n (k := 1) dX3_readClause_167 rfl rfl ?_
  refine z_getP (b := 1) dX3_readClause_168 fX3_26 rfl rfl rfl ?_
  refine ab_callV (As := []) (rest := []) dX3_readClause_171 lX3_66 rfl (Nat.le_of_ble_eq_true rfl) (Nat.le_of_ble_eq_true rfl) rfl ?_
  refine c_drefuse hz Se4 (fun e171 se171 Se171 => ?_)
  show ab_X (d + 6) mX3_readClause 174 [(1, .int (iI (-1))), (0, .ref 3)] [] e171 _
  refine z_vret dX3_readClause_174 rfl ?_
  exact K _ (se4.trans se171) Se171
theorem dl_kread {d : Nat} {h : ab_H} {Q : ab_Q} {z : Nat} {w : Int} {i : Nat}  (hi : i ≤ 160) (hz : z ≤ 160) (Seh : TD z h w) (K : ∀ h', sm [1] h h' → TD z h' w → Q (some (.int (iI w))) h') : ab_X (d + 7) mX3_read 37 [(0, .ref 3), (1, .int (iI (i : Int)))] [] h Q := by
  refine ab_iload_n (k := 1) dX3_read_37 rfl rfl ?_
  refine z_sipush dX3_read_38 (by decide) ?_
  refine z_icmp_ge (tgt := 73) dX3_read_41 (by decide) (by omega) (by decide) (fun c41 => ?_) (fun c41 => ?_)
  · skip
    refine ab_aload_n (k := 0) dX3_read_73 rfl rfl ?_
    refine z_getP (b := 1) dX3_read_74 fX3_26 rfl rfl rfl ?_
    refine ab_callV (As := []) (rest := []) dX3_read_77 lX3_56 rfl (Nat.le_of_ble_eq_true rfl) (Nat.le_of_ble_eq_true rfl) rfl ?_
    refine c_dlook hz Seh (fun e77 se77 Se77 => ?_)
    show ab_X (d + 7) mX3_read 80 [(0, .ref 3), (1, .int (iI (i : Int)))] [.int (iI (-1))] e77 _
    refine z_iconst dX3_read_80 ?_
    refine z_icmp_ne (tgt := 94) dX3_read_81 (by decide) (by decide) (by decide) (fun c81 => absurd c81 (by decide)) (fun _ => ?_)
    refine ab_aload_n (k := 0) dX3_read_84 rfl rfl ?_
    refine z_getP (b := 4) dX3_read_85 fX3_12 rfl rfl rfl ?_
    refine z_getI dX3_read_88 fX3_63 rfl (Or.inl rfl) ?_
    have b1 := zv_R e77 4 3
    refine z_if_ne (tgt := 101) dX3_read_91 (by decide) (by omega) (fun c91 => ?_) (fun c91 => ?_)
    · skip
      refine ab_aload_n (k := 0) dX3_read_101 rfl rfl ?_
      refine z_getP (b := 1) dX3_read_102 fX3_26 rfl rfl rfl ?_
      refine z_getI dX3_read_105 fX3_69 rfl (Or.inl rfl) ?_
      refine z_is (y := w) Se77.2.2.1 ?_
      refine z_iret dX3_read_108 rfl ?_
      first | exact K _ (se48.trans se77) Se77 | exact K _ se77 Se77
    · skip
      refine ab_aload_n (k := 0) dX3_read_94 rfl rfl ?_
      refine z_getP (b := 1) dX3_read_95 fX3_26 rfl rfl rfl ?_
      refine ab_callV (As := []) (rest := []) dX3_read_98 lX3_66 rfl (Nat.le_of_ble_eq_true rfl) (Nat.le_of_ble_eq_true rfl) rfl ?_
      refine c_drefuse hz Se77 (fun e98 se98 Se98 => ?_)
      show ab_X (d + 7) mX3_read 101 [(0, .ref 3), (1, .int (iI (i : Int)))] [] e98 _
      refine ab_aload_n (k := 0) dX3_read_101 rfl rfl ?_
      refine z_getP (b := 1) dX3_read_102 fX3_26 rfl rfl rfl ?_
      refine z_getI dX3_read_105 fX3_69 rfl (Or.inl rfl) ?_
      refine z_is (y := w) Se98.2.2.1 ?_
      refine z_iret dX3_read_108 rfl ?_
      first | exact K _ ((se48.trans se77).trans se98) Se98 | exact K _ (se77.trans se98) Se98
  · skip
    refine ab_aload_n (k := 0) dX3_read_44 rfl rfl ?_
    refine z_getP (b := 1) dX3_read_45 fX3_26 rfl rfl rfl ?_
    refine ab_callV (As := []) (rest := []) dX3_read_48 lX3_56 rfl (Nat.le_of_ble_eq_true rfl) (Nat.le_of_ble_eq_true rfl) rfl ?_
    refine c_dlook hz Seh (fun e48 se48 Se48 => ?_)
    show ab_X (d + 7) mX3_read 51 [(0, .ref 3), (1, .int (iI (i : Int)))] [.int (iI (-1))] e48 _
    refine z_bipush dX3_read_51 (by decide) ?_
    refine z_icmp_ne (tgt := 73) dX3_read_53 (by decide) (by decide) (by decide) (fun _ => ?_) (fun c53 => absurd c53 (by decide))
    refine ab_aload_n (k := 0) dX3_read_73 rfl rfl ?_
    refine z_getP (b := 1) dX3_read_74 fX3_26 rfl rfl rfl ?_
    refine ab_callV (As := []) (rest := []) dX3_read_77 lX3_56 rfl (Nat.le_of_ble_eq_true rfl) (Nat.le_of_ble_eq_true rfl) rfl ?_
    refine c_dlook hz Se48 (fun e77 se77 Se77 => ?_)
    show ab_X (d + 7) mX3_read 80 [(0, .ref 3), (1, .int (iI (i : Int)))] [.int (iI (-1))] e77 _
    refine z_iconst dX3_read_80 ?_
    refine z_icmp_ne (tgt := 94) dX3_read_81 (by decide) (by decide) (by decide) (fun c81 => absurd c81 (by decide)) (fun _ => ?_)
    refine ab_aload_n (k := 0) dX3_read_84 rfl rfl ?_
    refine z_getP (b := 4) dX3_read_85 fX3_12 rfl rfl rfl ?_
    refine z_getI dX3_read_88 fX3_63 rfl (Or.inl rfl) ?_
    have b2 := zv_R e77 4 3
    refine z_if_ne (tgt := 101) dX3_read_91 (by decide) (by omega) (fun c91 => ?_) (fun c91 => ?_)
    · skip
      refine ab_aload_n (k := 0) dX3_read_101 rfl rfl ?_
      refine z_getP (b := 1) dX3_read_102 fX3_26 rfl rfl rfl ?_
      refine z_getI dX3_read_105 fX3_69 rfl (Or.inl rfl) ?_
      refine z_is (y := w) Se77.2.2.1 ?_
      refine z_iret dX3_read_108 rfl ?_
      first | exact K _ (se48.trans se77) Se77 | exact K _ se77 Se77
    · skip
      refine ab_aload_n (k := 0) dX3_read_94 rfl rfl ?_
      refine z_getP (b := 1) dX3_read_95 fX3_26 rfl rfl rfl ?_
      refine ab_callV (As := []) (rest := []) dX3_read_98 lX3_66 rfl (Nat.le_of_ble_eq_true rfl) (Nat.le_of_ble_eq_true rfl) rfl ?_
      refine c_drefuse hz Se77 (fun e98 se98 Se98 => ?_)
      show ab_X (d + 7) mX3_read 101 [(0, .ref 3), (1, .int (iI (i : Int)))] [] e98 _
      refine ab_aload_n (k := 0) dX3_read_101 rfl rfl ?_
      refine z_getP (b := 1) dX3_read_102 fX3_26 rfl rfl rfl ?_
      refine z_getI dX3_read_105 fX3_69 rfl (Or.inl rfl) ?_
      refine z_is (y := w) Se98.2.2.1 ?_
      refine z_iret dX3_read_108 rfl ?_
      first | exact K _ ((se48.trans se77).trans se98) Se98 | exact K _ (se77.trans se98) Se98
theorem lp_kread {d : Nat} {Q : ab_Q} {T : Nat → Int} {z : Nat} {h0 : ab_H} {R : Int × kS}  (ht : tx T z) (K1 : ∀ h' p' S', R = (-1, S') → KQ T z h0 h' p' S' → Q (some (.int (iI (-1)))) h') (K0 : ∀ h' w, R.1 = w → ¬ w = -1 → KE z h0 h' w → Q (some (.int (iI w))) h') : ∀ (nn : Nat) (p : Nat) (i : Nat) (S : kS) (h : ab_H), 160 - i = nn → (KQ T z h0 h p S) → (i ≤ 160) → (i ≤ p) → (kRL T z (160 - i) p S = R) → ab_X (d + 7) mX3_read 37 [(0, .ref 3), (1, .int (iI (i : Int)))] [] h Q := by
  intro nn
  induction nn using Nat.strongRecOn with
  | ind nn ih =>
  intro p i S h hnn Qh hi hiq hR
  have hz := ht.1
  have Sh := Qh.2.1
  have hpz := Sh.2.2.2.2
  have hlen := Qh.2.2.2.2.2.2
  have h43 : ∀ h' : ab_H, sm [1] h h' → zv h' 4 3 = ((S.2.2.1.length : Nat) : Int) := fun h' s => (s.1 4 3 (by decide)).trans Qh.2.2.1.2.1
  refine ab_iload_n (k := 1) dX3_read_37 rfl rfl ?_
  refine z_sipush dX3_read_38 (by decide) ?_
  refine z_icmp_ge (tgt := 73) dX3_read_41 (by decide) (by omega) (by decide) (fun c41 => ?_) (fun c41 => ?_)
  · skip
    refine ab_aload_n (k := 0) dX3_read_73 rfl rfl ?_
    refine z_getP (b := 1) dX3_read_74 fX3_26 rfl rfl rfl ?_
    refine ab_callV (As := []) (rest := []) dX3_read_77 lX3_56 rfl (Nat.le_of_ble_eq_true rfl) (Nat.le_of_ble_eq_true rfl) rfl ?_
    refine c_tlook ht Sh (fun l77 sl77 Sl77 => ?_)
    have y77 := sg_b ht p
    have x77 := sg_lk T z p
    show ab_X (d + 7) mX3_read 80 [(0, .ref 3), (1, .int (iI (i : Int)))] [.int (iI (sg T z p))] l77 _
    refine z_iconst dX3_read_80 ?_
    refine z_icmp_ne (tgt := 94) dX3_read_81 (by decide) (by omega) (by decide) (fun c81 => ?_) (fun c81 => ?_)
    · skip
      refine ab_aload_n (k := 0) dX3_read_94 rfl rfl ?_
      refine z_getP (b := 1) dX3_read_95 fX3_26 rfl rfl rfl ?_
      refine ab_callV (As := []) (rest := []) dX3_read_98 lX3_66 rfl (Nat.le_of_ble_eq_true rfl) (Nat.le_of_ble_eq_true rfl) rfl ?_
      refine c_trefuse ht Sl77 (lk_lk _ _ _) (fun e98 se98 Se98 => ?_)
      show ab_X (d + 7) mX3_read 101 [(0, .ref 3), (1, .int (iI (i : Int)))] [] e98 _
      refine ab_aload_n (k := 0) dX3_read_101 rfl rfl ?_
      refine z_getP (b := 1) dX3_read_102 fX3_26 rfl rfl rfl ?_
      refine z_getI dX3_read_105 fX3_69 rfl (Or.inl rfl) ?_
      refine z_is (y := ((lk T z (lk T z p) : Nat) : Int)) Se98.2.2.1 ?_
      refine z_iret dX3_read_108 rfl ?_
      have e4 : lk T z (lk T z (lk T z p)) = lk T z p := by rw [lk_lk, lk_lk]
      have e5 : lk T z (lk T z p) = lk T z p := lk_lk T z p
      have e1 : 160 ≤ p → sg T z p = -1 := fun q => by unfold sg; rw [lk_n (by omega), if_neg (by omega)]
      first
      | (rw [e4] at Se98 ⊢
         exact K0 _ _ (by rw [← hR]; exact krl_4 (by omega) (by omega)) (by omega) ⟨Qh.1.trans (smK ((sl48.trans sl77).trans se98) (by decide)), Se98⟩)
      | (rw [e5] at Se98 ⊢
         exact K0 _ _ (by rw [← hR]; exact krl_4 (by omega) (by omega)) (by omega) ⟨Qh.1.trans (smK (sl77.trans se98) (by decide)), Se98⟩)
    · skip
      refine ab_aload_n (k := 0) dX3_read_84 rfl rfl ?_
      refine z_getP (b := 4) dX3_read_85 fX3_12 rfl rfl rfl ?_
      refine z_getI dX3_read_88 fX3_63 rfl (Or.inl rfl) ?_
      refine z_is (y := ((S.2.2.1.length : Nat) : Int)) (h43 l77 (by first | exact sl77 | exact sl48.trans sl77)) ?_
      refine z_if_ne (tgt := 101) dX3_read_91 (by decide) (by omega) (fun c91 => ?_) (fun c91 => ?_)
      · skip
        refine ab_aload_n (k := 0) dX3_read_101 rfl rfl ?_
        refine z_getP (b := 1) dX3_read_102 fX3_26 rfl rfl rfl ?_
        refine z_getI dX3_read_105 fX3_69 rfl (Or.inl rfl) ?_
        refine z_is (y := (-1)) Sl77.2.2.1 ?_
        refine z_iret dX3_read_108 rfl ?_
        have e3 := krl_3 (T := T) (z := z) (p := p) (S := S) (f := 160 - i) (by omega) (by omega)
        rw [hR] at e3
        first
        | exact K1 _ _ _ e3 ⟨Qh.1.trans (smK (sl48.trans sl77) (by decide)), Sl77, KC_m Qh.2.2.1 (sl48.trans sl77) (by decide) (by decide) (by decide) (by decide) (by decide), Qh.2.2.2⟩
        | exact K1 _ _ _ e3 ⟨Qh.1.trans (smK sl77 (by decide)), Sl77, KC_m Qh.2.2.1 sl77 (by decide) (by decide) (by decide) (by decide) (by decide), Qh.2.2.2⟩
      · skip
        refine ab_aload_n (k := 0) dX3_read_94 rfl rfl ?_
        refine z_getP (b := 1) dX3_read_95 fX3_26 rfl rfl rfl ?_
        refine ab_callV (As := []) (rest := []) dX3_read_98 lX3_66 rfl (Nat.le_of_ble_eq_true rfl) (Nat.le_of_ble_eq_true rfl) rfl ?_
        refine c_trefuse ht Sl77 (lk_lk _ _ _) (fun e98 se98 Se98 => ?_)
        show ab_X (d + 7) mX3_read 101 [(0, .ref 3), (1, .int (iI (i : Int)))] [] e98 _
        refine ab_aload_n (k := 0) dX3_read_101 rfl rfl ?_
        refine z_getP (b := 1) dX3_read_102 fX3_26 rfl rfl rfl ?_
        refine z_getI dX3_read_105 fX3_69 rfl (Or.inl rfl) ?_
        refine z_is (y := ((lk T z (lk T z p) : Nat) : Int)) Se98.2.2.1 ?_
        refine z_iret dX3_read_108 rfl ?_
        have e4 : lk T z (lk T z (lk T z p)) = lk T z p := by rw [lk_lk, lk_lk]
        have e5 : lk T z (lk T z p) = lk T z p := lk_lk T z p
        have e1 : 160 ≤ p → sg T z p = -1 := fun q => by unfold sg; rw [lk_n (by omega), if_neg (by omega)]
        first
        | (rw [e4] at Se98 ⊢
           exact K0 _ _ (by rw [← hR]; exact krl_4 (by omega) (by omega)) (by omega) ⟨Qh.1.trans (smK ((sl48.trans sl77).trans se98) (by decide)), Se98⟩)
        | (rw [e5] at Se98 ⊢
           exact K0 _ _ (by rw [← hR]; exact krl_4 (by omega) (by omega)) (by omega) ⟨Qh.1.trans (smK (sl77.trans se98) (by decide)), Se98⟩)
  · skip
    refine ab_aload_n (k := 0) dX3_read_44 rfl rfl ?_
    refine z_getP (b := 1) dX3_read_45 fX3_26 rfl rfl rfl ?_
    refine ab_callV (As := []) (rest := []) dX3_read_48 lX3_56 rfl (Nat.le_of_ble_eq_true rfl) (Nat.le_of_ble_eq_true rfl) rfl ?_
    refine c_tlook ht Sh (fun l48 sl48 Sl48 => ?_)
    have y48 := sg_b ht p
    have x48 := sg_lk T z p
    show ab_X (d + 7) mX3_read 51 [(0, .ref 3), (1, .int (iI (i : Int)))] [.int (iI (sg T z p))] l48 _
    refine z_bipush dX3_read_51 (by decide) ?_
    refine z_icmp_ne (tgt := 73) dX3_read_53 (by decide) (by omega) (by decide) (fun c53 => ?_) (fun c53 => ?_)
    · skip
      refine ab_aload_n (k := 0) dX3_read_73 rfl rfl ?_
      refine z_getP (b := 1) dX3_read_74 fX3_26 rfl rfl rfl ?_
      refine ab_callV (As := []) (rest := []) dX3_read_77 lX3_56 rfl (Nat.le_of_ble_eq_true rfl) (Nat.le_of_ble_eq_true rfl) rfl ?_
      refine c_tlook ht Sl48 (fun l77 sl77 Sl77 => ?_)
      have y77 := sg_b ht (lk T z p)
      have x77 := sg_lk T z p
      show ab_X (d + 7) mX3_read 80 [(0, .ref 3), (1, .int (iI (i : Int)))] [.int (iI (sg T z (lk T z p)))] l77 _
      refine z_iconst dX3_read_80 ?_
      refine z_icmp_ne (tgt := 94) dX3_read_81 (by decide) (by omega) (by decide) (fun c81 => ?_) (fun c81 => ?_)
      · skip
        refine ab_aload_n (k := 0) dX3_read_94 rfl rfl ?_
        refine z_getP (b := 1) dX3_read_95 fX3_26 rfl rfl rfl ?_
        refine ab_callV (As := []) (rest := []) dX3_read_98 lX3_66 rfl (Nat.le_of_ble_eq_true rfl) (Nat.le_of_ble_eq_true rfl) rfl ?_
        refine c_trefuse ht Sl77 (lk_lk _ _ _) (fun e98 se98 Se98 => ?_)
        show ab_X (d + 7) mX3_read 101 [(0, .ref 3), (1, .int (iI (i : Int)))] [] e98 _
        refine ab_aload_n (k := 0) dX3_read_101 rfl rfl ?_
        refine z_getP (b := 1) dX3_read_102 fX3_26 rfl rfl rfl ?_
        refine z_getI dX3_read_105 fX3_69 rfl (Or.inl rfl) ?_
        refine z_is (y := ((lk T z (lk T z (lk T z p)) : Nat) : Int)) Se98.2.2.1 ?_
        refine z_iret dX3_read_108 rfl ?_
        have e4 : lk T z (lk T z (lk T z p)) = lk T z p := by rw [lk_lk, lk_lk]
        have e5 : lk T z (lk T z p) = lk T z p := lk_lk T z p
        have e1 : 160 ≤ p → sg T z p = -1 := fun q => by unfold sg; rw [lk_n (by omega), if_neg (by omega)]
        first
        | (rw [e4] at Se98 ⊢
           exact K0 _ _ (by rw [← hR]; exact krl_4 (by omega) (by omega)) (by omega) ⟨Qh.1.trans (smK ((sl48.trans sl77).trans se98) (by decide)), Se98⟩)
        | (rw [e5] at Se98 ⊢
           exact K0 _ _ (by rw [← hR]; exact krl_4 (by omega) (by omega)) (by omega) ⟨Qh.1.trans (smK (sl77.trans se98) (by decide)), Se98⟩)
      · skip
        refine ab_aload_n (k := 0) dX3_read_84 rfl rfl ?_
        refine z_getP (b := 4) dX3_read_85 fX3_12 rfl rfl rfl ?_
        refine z_getI dX3_read_88 fX3_63 rfl (Or.inl rfl) ?_
        refine z_is (y := ((S.2.2.1.length : Nat) : Int)) (h43 l77 (by first | exact sl77 | exact sl48.trans sl77)) ?_
        refine z_if_ne (tgt := 101) dX3_read_91 (by decide) (by omega) (fun c91 => ?_) (fun c91 => ?_)
        · skip
          refine ab_aload_n (k := 0) dX3_read_101 rfl rfl ?_
          refine z_getP (b := 1) dX3_read_102 fX3_26 rfl rfl rfl ?_
          refine z_getI dX3_read_105 fX3_69 rfl (Or.inl rfl) ?_
          refine z_is (y := (-1)) Sl77.2.2.1 ?_
          refine z_iret dX3_read_108 rfl ?_
          have e3 := krl_3 (T := T) (z := z) (p := p) (S := S) (f := 160 - i) (by omega) (by omega)
          rw [hR] at e3
          first
          | exact K1 _ _ _ e3 ⟨Qh.1.trans (smK (sl48.trans sl77) (by decide)), Sl77, KC_m Qh.2.2.1 (sl48.trans sl77) (by decide) (by decide) (by decide) (by decide) (by decide), Qh.2.2.2⟩
          | exact K1 _ _ _ e3 ⟨Qh.1.trans (smK sl77 (by decide)), Sl77, KC_m Qh.2.2.1 sl77 (by decide) (by decide) (by decide) (by decide) (by decide), Qh.2.2.2⟩
        · skip
          refine ab_aload_n (k := 0) dX3_read_94 rfl rfl ?_
          refine z_getP (b := 1) dX3_read_95 fX3_26 rfl rfl rfl ?_
          refine ab_callV (As := []) (rest := []) dX3_read_98 lX3_66 rfl (Nat.le_of_ble_eq_true rfl) (Nat.le_of_ble_eq_true rfl) rfl ?_
          refine c_trefuse ht Sl77 (lk_lk _ _ _) (fun e98 se98 Se98 => ?_)
          show ab_X (d + 7) mX3_read 101 [(0, .ref 3), (1, .int (iI (i : Int)))] [] e98 _
          refine ab_aload_n (k := 0) dX3_read_101 rfl rfl ?_
          refine z_getP (b := 1) dX3_read_102 fX3_26 rfl rfl rfl ?_
          refine z_getI dX3_read_105 fX3_69 rfl (Or.inl rfl) ?_
          refine z_is (y := ((lk T z (lk T z (lk T z p)) : Nat) : Int)) Se98.2.2.1 ?_
          refine z_iret dX3_read_108 rfl ?_
          have e4 : lk T z (lk T z (lk T z p)) = lk T z p := by rw [lk_lk, lk_lk]
          have e5 : lk T z (lk T z p) = lk T z p := lk_lk T z p
          have e1 : 160 ≤ p → sg T z p = -1 := fun q => by unfold sg; rw [lk_n (by omega), if_neg (by omega)]
          first
          | (rw [e4] at Se98 ⊢
             exact K0 _ _ (by rw [← hR]; exact krl_4 (by omega) (by omega)) (by omega) ⟨Qh.1.trans (smK ((sl48.trans sl77).trans se98) (by decide)), Se98⟩)
          | (rw [e5] at Se98 ⊢
             exact K0 _ _ (by rw [← hR]; exact krl_4 (by omega) (by omega)) (by omega) ⟨Qh.1.trans (smK (sl77.trans se98) (by decide)), Se98⟩)
    · skip
      have z56 := sg_in (T := T) (z := z) (p := p) (by omega)
      refine ab_aload_n (k := 0) dX3_read_56 rfl rfl ?_
      refine z_getP (b := 1) dX3_read_57 fX3_26 rfl rfl rfl ?_
      refine ab_callV (As := []) (rest := []) dX3_read_60 lX3_60 rfl (Nat.le_of_ble_eq_true rfl) (Nat.le_of_ble_eq_true rfl) rfl ?_
      refine c_tstep ht Sl48 (by omega) (fun l60 sl60 Sl60 => ?_)
      have Ql60 : KQ T z h0 l60 (lk T z p + 1) S := ⟨Qh.1.trans (smK (sl48.trans sl60) (by decide)), Sl60, KC_m Qh.2.2.1 (sl48.trans sl60) (by decide) (by decide) (by decide) (by decide) (by decide), Qh.2.2.2⟩
      show ab_X (d + 7) mX3_read 63 [(0, .ref 3), (1, .int (iI (i : Int)))] [] l60 _
      refine ab_aload_n (k := 0) dX3_read_63 rfl rfl ?_
      refine ab_callV (As := []) (rest := []) dX3_read_64 lX3_53 rfl (Nat.le_of_ble_eq_true rfl) (Nat.le_of_ble_eq_true rfl) rfl ?_
      refine c_kclause ht Ql60 (fun l64 p64 q64 S64 j64 b64 b264 Ql64 => ?_) (fun e64 w64 j64 n64 Qe64 => ?_)
      · skip
        have Sl64 := Ql64.2.1
        have r64 := Sl64.2.2.2.2
        show ab_X (d + 7) mX3_read 67 [(0, .ref 3), (1, .int (iI (i : Int)))] [] l64 _
        refine z_iinc (k := 1) (v := (i : Int) + 1) (ls' := [(1, .int (iI ((i : Int) + 1))), (0, .ref 3)]) dX3_read_67 rfl rfl (by decide) rfl ?_
        refine ab_goto (tgt := 37) dX3_read_70 (by decide) ?_
        refine ab_sub (ls' := [(0, .ref 3), (1, .int (iI ((i : Int) + 1)))]) (ks := [1, 0]) rfl ?_
        refine ih _ (by omega) p64 (i + 1) S64 _ rfl Ql64 (by have := lk_ge T z p; omega) (by have := lk_ge T z p; omega) ?_
        rw [← hR, show 160 - i = (160 - (i + 1)) + 1 by omega, krl_1 (by omega) j64, ← b64, krl_lk]
      · skip
        have Se64 := Qe64.2
        show ab_X (d + 7) mX3_read 67 [(0, .ref 3), (1, .int (iI (i : Int)))] [] e64 _
        refine z_iinc (k := 1) (v := (i : Int) + 1) (ls' := [(1, .int (iI ((i : Int) + 1))), (0, .ref 3)]) dX3_read_67 rfl rfl (by decide) rfl ?_
        refine ab_goto (tgt := 37) dX3_read_70 (by decide) ?_
        refine ab_sub (ls' := [(0, .ref 3), (1, .int (iI ((i : Int) + 1)))]) (ks := [1, 0]) rfl ?_
        exact dl_kread (i := i + 1) (by omega) hz Se64 (fun h' s' S' => K0 h' _ (by rw [← hR, show 160 - i = (159 - i) + 1 by omega]; exact krl_2 (by omega) j64 n64) n64 ⟨Qe64.1.trans (smK s' (by decide)), S'⟩)
theorem c_kread {d : Nat} {h : ab_H} {Q : ab_Q} {T : Nat → Int} {z : Nat}  (ht : tx T z) (hz1 : zv h 1 1 = (z : Int)) (hT : ∀ i, i < z → zv h 2 i = T i) (K1 : ∀ h' p' S', kRu T z = (-1, S') → KQ T z h h' p' S' → Q (some (.int (iI (-1)))) h') (K0 : ∀ h' w, (kRu T z).1 = w → ¬ w = -1 → KE z h h' w → Q (some (.int (iI w))) h') : ab_X (d + 7) mX3_read 0 (lv_args 0 [.ref 3]) [] h Q := by
  show ab_X (d + 7) mX3_read 0 [(0, .ref 3)] [] h Q
  have hz := ht.1
  refine ab_aload_n (k := 0) dX3_read_0 rfl rfl ?_
  refine z_getP (b := 1) dX3_read_1 fX3_26 rfl rfl rfl ?_
  refine ab_callV (As := []) (rest := []) dX3_read_4 lX3_30 rfl (Nat.le_of_ble_eq_true rfl) (Nat.le_of_ble_eq_true rfl) rfl ?_
  refine c_rewind (p := 0) ht hz1 hT (fun l4 sl4 Sl4 => ?_)
  show ab_X (d + 7) mX3_read 7 [(0, .ref 3)] [] l4 _
  refine ab_aload_n (k := 0) dX3_read_7 rfl rfl ?_
  refine z_getP (b := 4) dX3_read_8 fX3_12 rfl rfl rfl ?_
  refine ab_callV (As := []) (rest := []) dX3_read_11 lX3_35 rfl (Nat.le_of_ble_eq_true rfl) (Nat.le_of_ble_eq_true rfl) rfl ?_
  refine c_begin (fun b11 sb11 => ?_)
  show ab_X (d + 7) mX3_read 14 [(0, .ref 3)] [] b11 _
  refine ab_aload_n (k := 0) dX3_read_14 rfl rfl ?_
  refine ab_gets (j := 0) dX3_read_15 (by decide) fX3_38 ?_
  refine ab_callV (As := [.ref (1000 + 0)]) (rest := []) dX3_read_18 lX3_41 rfl (Nat.le_of_ble_eq_true rfl) (Nat.le_of_ble_eq_true rfl) rfl ?_
  refine c_setKU (fun k18 sk18 uk18 tk18 => ?_)
  show ab_X (d + 7) mX3_read 21 [(0, .ref 3)] [] k18 _
  refine ab_aload_n (k := 0) dX3_read_21 rfl rfl ?_
  refine z_iconst dX3_read_22 ?_
  refine z_putZ dX3_read_23 fX3_45 rfl rfl (Or.inl rfl) ?_
  refine ab_aload_n (k := 0) dX3_read_26 rfl rfl ?_
  refine z_iconst dX3_read_27 ?_
  refine z_putI dX3_read_28 fX3_49 rfl rfl ?_
  obtain ⟨n28, en28⟩ : ∃ zz : ab_H, zz = zp (zp k18 3 4 0) 3 5 0 := ⟨_, rfl⟩
  refine z_h (h' := n28) en28.symm ?_
  have o : ∀ b j, b ≠ 1 → b ≠ 3 → b ≠ 4 → b ≠ 7 → zv n28 b j = zv h b j := fun b j b1 b3 b4 b7 => by rw [en28, zv_zp_a (by omega), zv_zp_a (by omega), sk18.1 b j (by simp only [List.mem_cons, List.not_mem_nil, or_false]; omega), sb11.1.1 b j (by simp only [List.mem_cons, List.not_mem_nil, or_false]; omega), zv_zp_a (by omega), sl4.1 b j (by simp only [List.mem_cons, List.not_mem_nil, or_false]; omega)]
  have Qn28 : KQ T z h n28 0 kS0 := by
    refine ⟨?_, ?_, ⟨fun i hi => ?_, ?_, fun i hi => absurd hi (Nat.not_lt_zero i), ?_, ?_, fun y hy => ?_⟩, kOK_0⟩
    · rw [en28]; exact ((((smK sl4 (by decide)).trans (sm_zp (by decide))).trans (smK sb11.1 (by decide))).trans (smK sk18 (by decide))).trans ((sm_zp (by decide)).trans (sm_zp (by decide)))
    · rw [en28]; exact TL_sm (TL_sm (TL_sm (TL_sm (TL_sm Sl4 (sm_zp (l := [4]) (by decide)) (by decide) (by decide)) sb11.1 (by decide) (by decide)) sk18 (by decide) (by decide)) (sm_zp (l := [3]) (by decide)) (by decide) (by decide)) (sm_zp (l := [3]) (by decide)) (by decide) (by decide)
    · rw [en28, zv_zp_a (by decide), zv_zp_a (by decide)]; exact uk18 i hi
    · rw [en28, zv_zp_a (by decide), zv_zp_a (by decide), tk18, sb11.1.1 4 3 (by decide), zv_zp_s (by decide)]; rfl
    · rw [en28, zv_zp_ne (by decide), zv_zp_s (by decide)]; rfl
    · rw [en28, zv_zp_s (by decide)]; rfl
    · have e7 : zv n28 7 y = 0 := by rw [en28, zv_zp_a (by decide), zv_zp_a (by decide), sk18.1 7 y (by decide), sb11.2 y, if_pos hy]
      rw [e7]
      exact ⟨Or.inl rfl, fun q => absurd q (by decide), fun q => by obtain ⟨g, g1, _⟩ := q; exact absurd g1 (List.not_mem_nil)⟩
  refine ab_aload_n (k := 0) dX3_read_31 rfl rfl ?_
  refine ab_callV (As := []) (rest := []) dX3_read_32 lX3_53 rfl (Nat.le_of_ble_eq_true rfl) (Nat.le_of_ble_eq_true rfl) rfl ?_
  refine c_kclause ht Qn28 (fun l32 p32 q32 S32 j32 b32 b232 Ql32 => ?_) (fun e32 w32 j32 n32 Qe32 => ?_)
  · skip
    have Sl32 := Ql32.2.1
    have r32 := Sl32.2.2.2.2
    show ab_X (d + 7) mX3_read 35 [(0, .ref 3)] [] l32 _
    refine z_iconst dX3_read_35 ?_
    refine ab_istore_n (ls' := [(1, .int (iI 0)), (0, .ref 3)]) dX3_read_36 rfl (by decide) rfl ?_
    refine ab_sub (ls' := [(0, .ref 3), (1, .int (iI 0))]) (ks := [1, 0]) rfl ?_
    exact lp_kread ht K1 K0 _ p32 0 S32 _ rfl Ql32 (by omega) (by omega) (by rw [← krl_lk, b32]; exact (kru_1 j32).symm)
  · skip
    have Se32 := Qe32.2
    show ab_X (d + 7) mX3_read 35 [(0, .ref 3)] [] e32 _
    refine z_iconst dX3_read_35 ?_
    refine ab_istore_n (ls' := [(1, .int (iI 0)), (0, .ref 3)]) dX3_read_36 rfl (by decide) rfl ?_
    refine ab_sub (ls' := [(0, .ref 3), (1, .int (iI 0))]) (ks := [1, 0]) rfl ?_
    exact dl_kread (i := 0) (by omega) hz Se32 (fun h' s' S' => K0 h' _ (kru_2 j32 n32) n32 ⟨Qe32.1.trans (smK s' (by decide)), S'⟩)
