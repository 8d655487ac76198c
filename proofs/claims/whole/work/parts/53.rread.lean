/-! THE CLASS READS A RULE: orders come into the draft; alive (CL) or behind a fault (CD) -/
def CCr (r : Nat) (h : ab_H) (c : List (Int × Int)) : Prop := zv h r 3 = (c.length : Int) ∧ ∀ i, i < c.length → zv h (r + 1) i = (c.getD i (0, 0)).1 ∧ zv h (r + 2) i = (c.getD i (0, 0)).2
def CL (T : Nat → Int) (z : Nat) (h0 h : ab_H) (p : Nat) (c : List (Int × Int)) : Prop := sm [1, 11, 12, 13] h0 h ∧ TL T z h p ∧ c.length ≤ p ∧ CCr 11 h c
def CD (z : Nat) (h0 h : ab_H) (w : Int) : Prop := sm [1, 11, 12, 13] h0 h ∧ TD z h w ∧ (0 ≤ zv h 11 3 ∧ zv h 11 3 ≤ 160)
theorem CCr_sm {r : Nat} {h h' : ab_H} {c : List (Int × Int)} {l : List Nat} (C : CCr r h c) (s : sm l h h') (h1 : r ∉ l) (h2 : r + 1 ∉ l) (h3 : r + 2 ∉ l) : CCr r h' c := ⟨(s.1 r 3 h1).trans C.1, fun i hi => ⟨(s.1 _ i h2).trans (C.2 i hi).1, (s.1 _ i h3).trans (C.2 i hi).2⟩⟩
theorem sm1 {h h' : ab_H} (s : sm [1] h h') : sm [1, 11, 12, 13] h h' := s.mono (fun x hx => by simp at hx; simp [hx])
theorem sm3 {h h' : ab_H} (s : sm [11, 12, 13] h h') : sm [1, 11, 12, 13] h h' := s.mono (fun x hx => List.mem_cons_of_mem _ hx)
theorem CL_t {T : Nat → Int} {z : Nat} {h0 h h' : ab_H} {p p' : Nat} {c : List (Int × Int)} (S : CL T z h0 h p c) (s : sm [1] h h') (t : TL T z h' p') (hp : p ≤ p') : CL T z h0 h' p' c := ⟨S.1.trans (sm1 s), t, by have := S.2.2.1; omega, CCr_sm S.2.2.2 s (by decide) (by decide) (by decide)⟩
theorem CL_d {T : Nat → Int} {z : Nat} {h0 h h' : ab_H} {p : Nat} {w : Int} {c : List (Int × Int)} (S : CL T z h0 h p c) (hz : z ≤ 160) (s : sm [1] h h') (t : TD z h' w) : CD z h0 h' w := ⟨S.1.trans (sm1 s), t, by
  rw [s.1 11 3 (by decide), S.2.2.2.1]
  have := S.2.2.1
  have := S.2.1.2.2.2.2
  omega⟩
theorem CD_d {z : Nat} {h0 h h' : ab_H} {w : Int} (S : CD z h0 h w) (s : sm [1] h h') (t : TD z h' w) : CD z h0 h' w := ⟨S.1.trans (sm1 s), t, by rw [s.1 11 3 (by decide)]; exact S.2.2⟩
theorem CCr_add {r : Nat} {h : ab_H} {c : List (Int × Int)} {x y : Int} (C : CCr r h c) (hl : c.length < 160) (hx : inR x) (hy : inR y) : CCr r (zp (zp (zp h (r + 1) c.length x) (r + 2) c.length y) r 3 ((c.length : Int) + 1)) (c ++ [(x, y)]) := by
  refine ⟨by rw [zv_zp_s (by omega), List.length_append]; simp, fun i hi => ?_⟩
  rw [List.length_append] at hi
  have hi2 : i < c.length + 1 := hi
  rw [zv_zp_a (by omega), zv_zp_a (by omega), zv_zp_a (show r + 2 ≠ r by omega)]
  by_cases e : i = c.length
  · subst e
    rw [zv_zp_s hx, zv_zp_s hy, List.getD_eq_getElem?_getD, List.getElem?_append_right (Nat.le_refl _), Nat.sub_self]
    exact ⟨rfl, rfl⟩
  · have := C.2 i (by omega)
    rw [zv_zp_ne (by omega), zv_zp_ne (by omega), zv_zp_a (by omega), List.getD_eq_getElem?_getD, List.getElem?_append_left (by omega), ← List.getD_eq_getElem?_getD]
    exact this
theorem c_add11 {d : Nat} {h : ab_H} {Q : ab_Q} {c : List (Int × Int)} {x y : Int} (C : CCr 11 h c) (hl : c.length < 160) (hx : inR x) (hy : inR y) (K : ∀ h', sm [11, 12, 13] h h' → CCr 11 h' (c ++ [(x, y)]) → Q none h') : ab_X d mX7_add 0 (lv_args 0 [.ref 11, .int (iI x), .int (iI y)]) [] h Q := by
  show ab_X d mX7_add 0 [(0, .ref 11), (1, .int (iI x)), (2, .int (iI y))] [] h Q
  refine ab_aload_n (k := 0) dX7_add_0 rfl rfl ?_
  refine z_getI dX7_add_1 fX7_21 rfl (Or.inl rfl) ?_
  refine z_is (y := (c.length : Int)) C.1 ?_
  refine z_sipush dX7_add_4 (by decide) ?_
  refine z_icmp_ge (tgt := 40) dX7_add_7 (by decide) (by omega) (by decide) (fun c7 => ?_) (fun c7 => ?_)
  · skip
    refine z_vret dX7_add_40 rfl ?_
    first | exact K _ (((sm_zp (by decide)).trans (sm_zp (by decide))).trans (sm_zp (by decide))) (CCr_add C hl hx hy) | (exfalso; omega)
  · skip
    refine ab_aload_n (k := 0) dX7_add_10 rfl rfl ?_
    refine z_getP (b := 12) dX7_add_11 fX7_9 rfl rfl rfl ?_
    refine ab_aload_n (k := 0) dX7_add_14 rfl rfl ?_
    refine z_getI dX7_add_15 fX7_21 rfl (Or.inl rfl) ?_
    refine z_is (y := (c.length : Int)) C.1 ?_
    refine ab_iload_n (k := 1) dX7_add_18 rfl rfl ?_
    refine z_iast dX7_add_19 rfl (by omega) (by omega) ?_
    refine ab_aload_n (k := 0) dX7_add_20 rfl rfl ?_
    refine z_getP (b := 13) dX7_add_21 fX7_15 rfl rfl rfl ?_
    refine ab_aload_n (k := 0) dX7_add_24 rfl rfl ?_
    refine z_getI dX7_add_25 fX7_21 rfl (Or.inl rfl) ?_
    refine z_is (y := zv h 11 3) (zv_zp_a (by decide)) ?_
    refine z_is (y := (c.length : Int)) C.1 ?_
    refine ab_iload_n (k := 2) dX7_add_28 rfl rfl ?_
    refine z_iast dX7_add_29 rfl (by omega) (by omega) ?_
    refine ab_aload_n (k := 0) dX7_add_30 rfl rfl ?_
    refine ab_dup dX7_add_31 rfl ?_
    refine z_getI dX7_add_32 fX7_21 rfl (Or.inl rfl) ?_
    refine z_is (y := zv h 11 3) ((zv_zp_a (by decide)).trans (zv_zp_a (by decide))) ?_
    refine z_is (y := (c.length : Int)) C.1 ?_
    refine z_iconst dX7_add_35 ?_
    refine z_iadd dX7_add_36 ?_
    refine z_putI dX7_add_37 fX7_21 rfl rfl ?_
    refine z_vret dX7_add_40 rfl ?_
    first | exact K _ (((sm_zp (by decide)).trans (sm_zp (by decide))).trans (sm_zp (by decide))) (CCr_add C hl hx hy) | (exfalso; omega)
theorem c_add11d {d : Nat} {h : ab_H} {Q : ab_Q} {x y : Int} (C : 0 ≤ zv h 11 3 ∧ zv h 11 3 ≤ 160) (K : ∀ h', sm [11, 12, 13] h h' → 0 ≤ zv h' 11 3 ∧ zv h' 11 3 ≤ 160 → Q none h') : ab_X d mX7_add 0 (lv_args 0 [.ref 11, .int (iI x), .int (iI y)]) [] h Q := by
  show ab_X d mX7_add 0 [(0, .ref 11), (1, .int (iI x)), (2, .int (iI y))] [] h Q
  refine ab_aload_n (k := 0) dX7_add_0 rfl rfl ?_
  refine z_getI dX7_add_1 fX7_21 rfl (Or.inl rfl) ?_
  have b1 := zv_R h 11 3
  refine z_sipush dX7_add_4 (by decide) ?_
  refine z_icmp_ge (tgt := 40) dX7_add_7 (by decide) (by omega) (by decide) (fun c7 => ?_) (fun c7 => ?_)
  · skip
    refine z_vret dX7_add_40 rfl ?_
    first | exact K _ (((sm_zp (by decide)).trans (sm_zp (by decide))).trans (sm_zp (by decide))) (by rw [zv_zp_s (by omega)]; omega) | exact K _ sm.refl C
  · skip
    refine ab_aload_n (k := 0) dX7_add_10 rfl rfl ?_
    refine z_getP (b := 12) dX7_add_11 fX7_9 rfl rfl rfl ?_
    refine ab_aload_n (k := 0) dX7_add_14 rfl rfl ?_
    refine z_getI dX7_add_15 fX7_21 rfl (Or.inl rfl) ?_
    have b2 := zv_R h 11 3
    refine ab_iload_n (k := 1) dX7_add_18 rfl rfl ?_
    refine z_iast dX7_add_19 rfl (by omega) (by omega) ?_
    refine ab_aload_n (k := 0) dX7_add_20 rfl rfl ?_
    refine z_getP (b := 13) dX7_add_21 fX7_15 rfl rfl rfl ?_
    refine ab_aload_n (k := 0) dX7_add_24 rfl rfl ?_
    refine z_getI dX7_add_25 fX7_21 rfl (Or.inl rfl) ?_
    refine z_is (y := zv h 11 3) (zv_zp_a (by decide)) ?_
    have b3 := zv_R h 11 3
    refine ab_iload_n (k := 2) dX7_add_28 rfl rfl ?_
    refine z_iast dX7_add_29 rfl (by omega) (by omega) ?_
    refine ab_aload_n (k := 0) dX7_add_30 rfl rfl ?_
    refine ab_dup dX7_add_31 rfl ?_
    refine z_getI dX7_add_32 fX7_21 rfl (Or.inl rfl) ?_
    refine z_is (y := zv h 11 3) ((zv_zp_a (by decide)).trans (zv_zp_a (by decide))) ?_
    have b4 := zv_R h 11 3
    refine z_iconst dX7_add_35 ?_
    refine z_iadd dX7_add_36 ?_
    refine z_putI dX7_add_37 fX7_21 rfl rfl ?_
    refine z_vret dX7_add_40 rfl ?_
    first | exact K _ (((sm_zp (by decide)).trans (sm_zp (by decide))).trans (sm_zp (by decide))) (by rw [zv_zp_s (by omega)]; omega) | exact K _ sm.refl C
theorem CL_add {T : Nat → Int} {z : Nat} {h0 h h' : ab_H} {p : Nat} {c : List (Int × Int)} {q : Int × Int} (S : CL T z h0 h p c) (hp : c.length + 1 ≤ p) (s : sm [11, 12, 13] h h') (C : CCr 11 h' (c ++ [q])) : CL T z h0 h' p (c ++ [q]) := ⟨S.1.trans (sm3 s), TL_sm S.2.1 s (by decide) (by decide), by rw [List.length_append]; exact hp, C⟩
theorem CD_add {z : Nat} {h0 h h' : ab_H} {w : Int} (S : CD z h0 h w) (s : sm [11, 12, 13] h h') (C : 0 ≤ zv h' 11 3 ∧ zv h' 11 3 ≤ 160) : CD z h0 h' w := ⟨S.1.trans (sm3 s), TD_sm S.2.1 s (by decide), C⟩
theorem CCr_set {r u : Nat} {h : ab_H} {c d : List (Int × Int)} {x v v0 : Int} (C : CCr r h (c ++ (x, v0) :: d)) (hu : u = c.length) (hv : inR v) : CCr r (zp h (r + 2) u v) (c ++ (x, v) :: d) := by
  subst hu
  have hl : (c ++ (x, v) :: d).length = (c ++ (x, v0) :: d).length := by simp
  refine ⟨by rw [zv_zp_a (by omega), hl]; exact C.1, fun i hi => ?_⟩
  rw [hl] at hi
  have := C.2 i hi
  rw [zv_zp_a (by omega)]
  by_cases e : i = c.length
  · subst e
    rw [zv_zp_s hv]
    rw [List.getD_eq_getElem?_getD, List.getElem?_append_right (Nat.le_refl _), Nat.sub_self] at this ⊢
    exact ⟨this.1, rfl⟩
  · rw [zv_zp_ne (by omega)]
    have e2 : (c ++ (x, v) :: d).getD i (0, 0) = (c ++ (x, v0) :: d).getD i (0, 0) := by
      rw [List.getD_eq_getElem?_getD, List.getD_eq_getElem?_getD]
      rcases Nat.lt_or_ge i c.length with q | q
      · rw [List.getElem?_append_left q, List.getElem?_append_left q]
      · rw [List.getElem?_append_right q, List.getElem?_append_right q]
        obtain ⟨k, hk⟩ : ∃ k, i - c.length = k + 1 := ⟨i - c.length - 1, by omega⟩
        rw [hk]; rfl
    rw [e2]; exact this
/-- a reading of the class, alive and behind a fault -/
def rdC (T : Nat → Int) (z : Nat) (M : ab_M) (As : List Value) (f : Nat → pR) (d : Nat) : Prop := ∀ (h0 h : ab_H) (Q : ab_Q) (p : Nat) (c : List (Int × Int)), CL T z h0 h p c → (∀ h' p' c', f p = (-1, p', c') → p + c'.length ≤ p' → CL T z h0 h' p' (c ++ c') → Q none h') → (∀ h' w, (f p).1 = w → ¬ w = -1 → CD z h0 h' w → Q none h') → ab_X d M 0 (lv_args 0 As) [] h Q
def rdD (z : Nat) (M : ab_M) (As : List Value) (d : Nat) : Prop := ∀ (h0 h : ab_H) (Q : ab_Q) (w : Int), CD z h0 h w → (∀ h', CD z h0 h' w → Q none h') → ab_X d M 0 (lv_args 0 As) [] h Q
theorem c_comparison {d : Nat} {h : ab_H} {Q : ab_Q} {s : Int} (hs : inR s) (K : Q (some (.int (iI (cmpo s)))) h) : ab_X d mX8_comparison 0 (lv_args 0 [.int (iI s)]) [] h Q := by
  show ab_X d mX8_comparison 0 [(0, .int (iI s))] [] h Q
  have K2 := K
  unfold cmpo at K2
  refine ab_iload_n (k := 0) dX8_comparison_0 rfl rfl ?_
  by_cases q1_0 : s = 60
  · skip
    refine z_swIn (tgt := 31) dX8_comparison_1 (by omega) (by omega) (by omega) (by rw [q1_0]; rfl) (by decide) ?_
    refine z_bipush dX8_comparison_31 (by decide) ?_
    refine z_iret dX8_comparison_33 rfl ?_
    revert K2
    (repeat' split) <;> intro K2 <;> first | exact K2 | (exfalso; omega)
  by_cases q1_1 : s = 61
  · skip
    refine z_swIn (tgt := 28) dX8_comparison_1 (by omega) (by omega) (by omega) (by rw [q1_1]; rfl) (by decide) ?_
    refine z_bipush dX8_comparison_28 (by decide) ?_
    refine z_iret dX8_comparison_30 rfl ?_
    revert K2
    (repeat' split) <;> intro K2 <;> first | exact K2 | (exfalso; omega)
  by_cases q1_2 : s = 62
  · skip
    refine z_swIn (tgt := 34) dX8_comparison_1 (by omega) (by omega) (by omega) (by rw [q1_2]; rfl) (by decide) ?_
    refine z_bipush dX8_comparison_34 (by decide) ?_
    refine z_iret dX8_comparison_36 rfl ?_
    revert K2
    (repeat' split) <;> intro K2 <;> first | exact K2 | (exfalso; omega)
  refine z_swOut (tgt := 37) dX8_comparison_1 (by omega) (by omega) (by decide) ?_
  refine z_iconst dX8_comparison_37 ?_
  refine z_iret dX8_comparison_38 rfl ?_
  revert K2
  (repeat' split) <;> intro K2 <;> first | exact K2 | (exfalso; omega)
theorem cmpo_b (s : Int) : -1 ≤ cmpo s ∧ cmpo s ≤ 8 ∧ ¬ cmpo s = 0 := by unfold cmpo; (repeat' split) <;> omega
theorem cmpo_in {s : Int} (h : ¬ cmpo s = -1) : ¬ s = -1 := fun e => by rw [e] at h; exact h rfl
theorem c_goDeeper {d : Nat} {h : ab_H} {Q : ab_Q} {T : Nat → Int} {z : Nat} {h0 : ab_H} {p D : Nat} {c : List (Int × Int)} (ht : tx T z) (hD : D ≤ 6) (Sh : CL T z h0 h p c) (hp : p < z) (hk : lk T z p = p) (k1 : D < 6 → ∀ h', CL T z h0 h' (p + 1) c → Q (some (.int (iI 1))) h') (k0 : D = 6 → ∀ h', CD z h0 h' ((lk T z p : Nat) : Int) → Q (some (.int (iI 0))) h') : ab_X (d + 2) mX8_goDeeper 0 (lv_args 0 [.ref 10, .int (iI (D : Int))]) [] h Q := by
  show ab_X (d + 2) mX8_goDeeper 0 [(0, .ref 10), (1, .int (iI (D : Int)))] [] h Q
  have hz := ht.1
  have hpz := Sh.2.1.2.2.2.2
  have hcl := Sh.2.2.1
  refine ab_iload_n (k := 1) dX8_goDeeper_0 rfl rfl ?_
  refine z_bipush dX8_goDeeper_1 (by decide) ?_
  refine z_icmp_lt (tgt := 15) dX8_goDeeper_3 (by decide) (by omega) (by decide) (fun c3 => ?_) (fun c3 => ?_)
  · skip
    refine ab_aload_n (k := 0) dX8_goDeeper_15 rfl rfl ?_
    refine z_getP (b := 1) dX8_goDeeper_16 fX8_18 rfl rfl rfl ?_
    refine ab_callV (As := []) (rest := []) dX8_goDeeper_19 lX8_38 rfl (Nat.le_of_ble_eq_true rfl) (Nat.le_of_ble_eq_true rfl) rfl ?_
    refine c_tstep ht Sh.2.1 (by omega) (fun l19 sl19 tl19 => ?_)
    have Sl19 := CL_t Sh sl19 tl19 (by omega)
    show ab_X (d + 2) mX8_goDeeper 22 [(0, .ref 10), (1, .int (iI (D : Int)))] [] l19 _
    refine z_iconst dX8_goDeeper_22 ?_
    refine z_zret dX8_goDeeper_23 rfl (Or.inr rfl) ?_
    first | exact k1 (by omega) _ Sl19 | exact k0 (by omega) _ Se10
  · skip
    refine ab_aload_n (k := 0) dX8_goDeeper_6 rfl rfl ?_
    refine z_getP (b := 1) dX8_goDeeper_7 fX8_18 rfl rfl rfl ?_
    refine ab_callV (As := []) (rest := []) dX8_goDeeper_10 lX8_41 rfl (Nat.le_of_ble_eq_true rfl) (Nat.le_of_ble_eq_true rfl) rfl ?_
    refine c_trefuse ht Sh.2.1 hk (fun e10 se10 te10 => ?_)
    have Se10 := CL_d Sh hz se10 te10
    show ab_X (d + 2) mX8_goDeeper 13 [(0, .ref 10), (1, .int (iI (D : Int)))] [] e10 _
    refine z_iconst dX8_goDeeper_13 ?_
    refine z_zret dX8_goDeeper_14 rfl (Or.inl rfl) ?_
    first | exact k1 (by omega) _ Sl19 | exact k0 (by omega) _ Se10
theorem c_readAtom0 {d : Nat} {h : ab_H} {Q : ab_Q} {T : Nat → Int} {z : Nat} {h0 : ab_H} {p D : Nat} {c : List (Int × Int)} {sub : Option (Nat → pR)} (ht : tx T z) (hD : D ≤ 6) (hs1 : D < 6 → ∃ g, sub = some g ∧ rdC T z mX8_readSum [.ref 10, .int (iI ((D : Int) + 1))] g (d + 4)) (hs0 : D = 6 → sub = none) (hs2 : rdD z mX8_readSum [.ref 10, .int (iI ((D : Int) + 1))] (d + 4)) (Sh : CL T z h0 h p c) (K1 : ∀ h' p' c', atomF T z sub p = (-1, p', c') → p + c'.length ≤ p' → CL T z h0 h' p' (c ++ c') → Q none h') (K0 : ∀ h' w, (atomF T z sub p).1 = w → ¬ w = -1 → CD z h0 h' w → Q none h') : ab_X (d + 5) mX8_readAtom 0 (lv_args 0 [.ref 10, .int (iI (D : Int))]) [] h Q := by
  show ab_X (d + 5) mX8_readAtom 0 [(0, .ref 10), (1, .int (iI (D : Int)))] [] h Q
  have hz := ht.1
  have hpz := Sh.2.1.2.2.2.2
  have hcl := Sh.2.2.1
  refine ab_aload_n (k := 0) dX8_readAtom_0 rfl rfl ?_
  refine z_getP (b := 1) dX8_readAtom_1 fX8_18 rfl rfl rfl ?_
  refine ab_callV (As := []) (rest := []) dX8_readAtom_4 lX8_34 rfl (Nat.le_of_ble_eq_true rfl) (Nat.le_of_ble_eq_true rfl) rfl ?_
  refine c_tlook ht Sh.2.1 (fun l4 sl4 tl4 => ?_)
  have k4 := lk_ge T z p
  have Sl4 := CL_t Sh sl4 tl4 (by omega)
  have y4 := sg_b ht p
  show ab_X (d + 5) mX8_readAtom 7 [(0, .ref 10), (1, .int (iI (D : Int)))] [.int (iI (sg T z p))] l4 _
  refine ab_istore_n (ls' := [(2, .int (iI (sg T z p))), (0, .ref 10), (1, .int (iI (D : Int)))]) dX8_readAtom_7 rfl (by decide) rfl ?_
  refine ab_iload_n (k := 0) dX8_readAtom_8 rfl rfl ?_
  refine z_bipush dX8_readAtom_9 (by decide) ?_
  refine z_icmp_ne (tgt := 39) dX8_readAtom_11 (by decide) (by omega) (by decide) (fun c11 => ?_) (fun c11 => ?_)
  · skip
    refine z_iconst dX8_readAtom_39 ?_
    refine ab_istore_n (ls' := [(3, .int (iI 0)), (2, .int (iI (sg T z p))), (0, .ref 10), (1, .int (iI (D : Int)))]) dX8_readAtom_40 rfl (by decide) rfl ?_
    refine ab_iload_n (k := 0) dX8_readAtom_41 rfl rfl ?_
    refine ab_ldcs (j := 3) dX8_readAtom_42 (by decide) ?_
    refine ab_callT (As := []) (rest := [.int (iI 0)]) dX8_readAtom_44 lX8_88 (by decide) (Nat.le_of_ble_eq_true rfl) (Nat.le_of_ble_eq_true rfl) rfl ?_
    refine c_slen (j := 3) (by decide) ?_
    show ab_X (d + 5) mX8_readAtom 47 [(3, .int (iI 0)), (2, .int (iI (sg T z p))), (0, .ref 10), (1, .int (iI (D : Int)))] [.int (iI 5), .int (iI 0)] l4 _
    refine z_icmp_ge (tgt := 83) dX8_readAtom_47 (by decide) (by decide) (by decide) (fun c47 => absurd c47 (by decide)) (fun _ => ?_)
    refine ab_ldcs (j := 3) dX8_readAtom_50 (by decide) ?_
    refine ab_iload_n (k := 0) dX8_readAtom_52 rfl rfl ?_
    refine ab_callT (As := [.int (iI 0)]) (rest := []) dX8_readAtom_53 lX8_93 (by decide) (Nat.le_of_ble_eq_true rfl) (Nat.le_of_ble_eq_true rfl) rfl ?_
    refine c_charAt (j := 3) (i := 0) (by decide) (by decide) ?_
    show ab_X (d + 5) mX8_readAtom 56 [(3, .int (iI 0)), (2, .int (iI (sg T z p))), (0, .ref 10), (1, .int (iI (D : Int)))] [.int (iI 112)] l4 _
    refine ab_iload_n (k := 1) dX8_readAtom_56 rfl rfl ?_
    refine z_icmp_ne (tgt := 77) dX8_readAtom_57 (by decide) (by decide) (by omega) (fun c57 => ?_) (fun c57 => ?_)
    · skip
      refine z_iinc (k := 0) (v := 1) (ls' := [(3, .int (iI 1)), (2, .int (iI (sg T z p))), (0, .ref 10), (1, .int (iI (D : Int)))]) dX8_readAtom_77 rfl rfl (by decide) rfl ?_
      refine ab_goto (tgt := 41) dX8_readAtom_80 (by decide) ?_
      refine ab_iload_n (k := 0) dX8_readAtom_41 rfl rfl ?_
      refine ab_ldcs (j := 3) dX8_readAtom_42 (by decide) ?_
      refine ab_callT (As := []) (rest := [.int (iI 1)]) dX8_readAtom_44 lX8_88 (by decide) (Nat.le_of_ble_eq_true rfl) (Nat.le_of_ble_eq_true rfl) rfl ?_
      refine c_slen (j := 3) (by decide) ?_
      show ab_X (d + 5) mX8_readAtom 47 [(3, .int (iI 1)), (2, .int (iI (sg T z p))), (0, .ref 10), (1, .int (iI (D : Int)))] [.int (iI 5), .int (iI 1)] l4 _
      refine z_icmp_ge (tgt := 83) dX8_readAtom_47 (by decide) (by decide) (by decide) (fun c47 => absurd c47 (by decide)) (fun _ => ?_)
      refine ab_ldcs (j := 3) dX8_readAtom_50 (by decide) ?_
      refine ab_iload_n (k := 0) dX8_readAtom_52 rfl rfl ?_
      refine ab_callT (As := [.int (iI 1)]) (rest := []) dX8_readAtom_53 lX8_93 (by decide) (Nat.le_of_ble_eq_true rfl) (Nat.le_of_ble_eq_true rfl) rfl ?_
      refine c_charAt (j := 3) (i := 1) (by decide) (by decide) ?_
      show ab_X (d + 5) mX8_readAtom 56 [(3, .int (iI 1)), (2, .int (iI (sg T z p))), (0, .ref 10), (1, .int (iI (D : Int)))] [.int (iI 108)] l4 _
      refine ab_iload_n (k := 1) dX8_readAtom_56 rfl rfl ?_
      refine z_icmp_ne (tgt := 77) dX8_readAtom_57 (by decide) (by decide) (by omega) (fun c57 => ?_) (fun c57 => ?_)
      · skip
        refine z_iinc (k := 0) (v := 2) (ls' := [(3, .int (iI 2)), (2, .int (iI (sg T z p))), (0, .ref 10), (1, .int (iI (D : Int)))]) dX8_readAtom_77 rfl rfl (by decide) rfl ?_
        refine ab_goto (tgt := 41) dX8_readAtom_80 (by decide) ?_
        refine ab_iload_n (k := 0) dX8_readAtom_41 rfl rfl ?_
        refine ab_ldcs (j := 3) dX8_readAtom_42 (by decide) ?_
        refine ab_callT (As := []) (rest := [.int (iI 2)]) dX8_readAtom_44 lX8_88 (by decide) (Nat.le_of_ble_eq_true rfl) (Nat.le_of_ble_eq_true rfl) rfl ?_
        refine c_slen (j := 3) (by decide) ?_
        show ab_X (d + 5) mX8_readAtom 47 [(3, .int (iI 2)), (2, .int (iI (sg T z p))), (0, .ref 10), (1, .int (iI (D : Int)))] [.int (iI 5), .int (iI 2)] l4 _
        refine z_icmp_ge (tgt := 83) dX8_readAtom_47 (by decide) (by decide) (by decide) (fun c47 => absurd c47 (by decide)) (fun _ => ?_)
        refine ab_ldcs (j := 3) dX8_readAtom_50 (by decide) ?_
        refine ab_iload_n (k := 0) dX8_readAtom_52 rfl rfl ?_
        refine ab_callT (As := [.int (iI 2)]) (rest := []) dX8_readAtom_53 lX8_93 (by decide) (Nat.le_of_ble_eq_true rfl) (Nat.le_of_ble_eq_true rfl) rfl ?_
        refine c_charAt (j := 3) (i := 2) (by decide) (by decide) ?_
        show ab_X (d + 5) mX8_readAtom 56 [(3, .int (iI 2)), (2, .int (iI (sg T z p))), (0, .ref 10), (1, .int (iI (D : Int)))] [.int (iI 98)] l4 _
        refine ab_iload_n (k := 1) dX8_readAtom_56 rfl rfl ?_
        refine z_icmp_ne (tgt := 77) dX8_readAtom_57 (by decide) (by decide) (by omega) (fun c57 => ?_) (fun c57 => ?_)
        · skip
          refine z_iinc (k := 0) (v := 3) (ls' := [(3, .int (iI 3)), (2, .int (iI (sg T z p))), (0, .ref 10), (1, .int (iI (D : Int)))]) dX8_readAtom_77 rfl rfl (by decide) rfl ?_
          refine ab_goto (tgt := 41) dX8_readAtom_80 (by decide) ?_
          refine ab_iload_n (k := 0) dX8_readAtom_41 rfl rfl ?_
          refine ab_ldcs (j := 3) dX8_readAtom_42 (by decide) ?_
          refine ab_callT (As := []) (rest := [.int (iI 3)]) dX8_readAtom_44 lX8_88 (by decide) (Nat.le_of_ble_eq_true rfl) (Nat.le_of_ble_eq_true rfl) rfl ?_
          refine c_slen (j := 3) (by decide) ?_
          show ab_X (d + 5) mX8_readAtom 47 [(3, .int (iI 3)), (2, .int (iI (sg T z p))), (0, .ref 10), (1, .int (iI (D : Int)))] [.int (iI 5), .int (iI 3)] l4 _
          refine z_icmp_ge (tgt := 83) dX8_readAtom_47 (by decide) (by decide) (by decide) (fun c47 => absurd c47 (by decide)) (fun _ => ?_)
          refine ab_ldcs (j := 3) dX8_readAtom_50 (by decide) ?_
          refine ab_iload_n (k := 0) dX8_readAtom_52 rfl rfl ?_
          refine ab_callT (As := [.int (iI 3)]) (rest := []) dX8_readAtom_53 lX8_93 (by decide) (Nat.le_of_ble_eq_true rfl) (Nat.le_of_ble_eq_true rfl) rfl ?_
          refine c_charAt (j := 3) (i := 3) (by decide) (by decide) ?_
          show ab_X (d + 5) mX8_readAtom 56 [(3, .int (iI 3)), (2, .int (iI (sg T z p))), (0, .ref 10), (1, .int (iI (D : Int)))] [.int (iI 97)] l4 _
          refine ab_iload_n (k := 1) dX8_readAtom_56 rfl rfl ?_
          refine z_icmp_ne (tgt := 77) dX8_readAtom_57 (by decide) (by decide) (by omega) (fun c57 => ?_) (fun c57 => ?_)
          · skip
            refine z_iinc (k := 0) (v := 4) (ls' := [(3, .int (iI 4)), (2, .int (iI (sg T z p))), (0, .ref 10), (1, .int (iI (D : Int)))]) dX8_readAtom_77 rfl rfl (by decide) rfl ?_
            refine ab_goto (tgt := 41) dX8_readAtom_80 (by decide) ?_
            refine ab_iload_n (k := 0) dX8_readAtom_41 rfl rfl ?_
            refine ab_ldcs (j := 3) dX8_readAtom_42 (by decide) ?_
            refine ab_callT (As := []) (rest := [.int (iI 4)]) dX8_readAtom_44 lX8_88 (by decide) (Nat.le_of_ble_eq_true rfl) (Nat.le_of_ble_eq_true rfl) rfl ?_
            refine c_slen (j := 3) (by decide) ?_
            show ab_X (d + 5) mX8_readAtom 47 [(3, .int (iI 4)), (2, .int (iI (sg T z p))), (0, .ref 10), (1, .int (iI (D : Int)))] [.int (iI 5), .int (iI 4)] l4 _
            refine z_icmp_ge (tgt := 83) dX8_readAtom_47 (by decide) (by decide) (by decide) (fun c47 => absurd c47 (by decide)) (fun _ => ?_)
            refine ab_ldcs (j := 3) dX8_readAtom_50 (by decide) ?_
            refine ab_iload_n (k := 0) dX8_readAtom_52 rfl rfl ?_
            refine ab_callT (As := [.int (iI 4)]) (rest := []) dX8_readAtom_53 lX8_93 (by decide) (Nat.le_of_ble_eq_true rfl) (Nat.le_of_ble_eq_true rfl) rfl ?_
            refine c_charAt (j := 3) (i := 4) (by decide) (by decide) ?_
            show ab_X (d + 5) mX8_readAtom 56 [(3, .int (iI 4)), (2, .int (iI (sg T z p))), (0, .ref 10), (1, .int (iI (D : Int)))] [.int (iI 110)] l4 _
            refine ab_iload_n (k := 1) dX8_readAtom_56 rfl rfl ?_
            refine z_icmp_ne (tgt := 77) dX8_readAtom_57 (by decide) (by decide) (by omega) (fun c57 => ?_) (fun c57 => ?_)
            · skip
              refine z_iinc (k := 0) (v := 5) (ls' := [(3, .int (iI 5)), (2, .int (iI (sg T z p))), (0, .ref 10), (1, .int (iI (D : Int)))]) dX8_readAtom_77 rfl rfl (by decide) rfl ?_
              refine ab_goto (tgt := 41) dX8_readAtom_80 (by decide) ?_
              refine ab_iload_n (k := 0) dX8_readAtom_41 rfl rfl ?_
              refine ab_ldcs (j := 3) dX8_readAtom_42 (by decide) ?_
              refine ab_callT (As := []) (rest := [.int (iI 5)]) dX8_readAtom_44 lX8_88 (by decide) (Nat.le_of_ble_eq_true rfl) (Nat.le_of_ble_eq_true rfl) rfl ?_
              refine c_slen (j := 3) (by decide) ?_
              show ab_X (d + 5) mX8_readAtom 47 [(3, .int (iI 5)), (2, .int (iI (sg T z p))), (0, .ref 10), (1, .int (iI (D : Int)))] [.int (iI 5), .int (iI 5)] l4 _
              refine z_icmp_ge (tgt := 83) dX8_readAtom_47 (by decide) (by decide) (by decide) (fun _ => ?_) (fun c47 => absurd c47 (by decide))
              refine ab_aload_n (k := 2) dX8_readAtom_83 rfl rfl ?_
              refine z_getP (b := 11) dX8_readAtom_84 fX8_12 rfl rfl rfl ?_
              refine z_iconst dX8_readAtom_87 ?_
              refine ab_aload_n (k := 2) dX8_readAtom_88 rfl rfl ?_
              refine z_getP (b := 1) dX8_readAtom_89 fX8_18 rfl rfl rfl ?_
              refine z_iconst dX8_readAtom_92 ?_
              refine ab_callV (As := [.int (iI 4)]) (rest := [.int (iI 0), .ref 11]) dX8_readAtom_93 lX8_97 rfl (Nat.le_of_ble_eq_true rfl) (Nat.le_of_ble_eq_true rfl) rfl ?_
              refine c_tnumber (m := 4) ht (by omega) Sl4.2.1 (fun l93 q93 v93 j93 b93 vb93 sl93 tl93 => ?_) (fun e93 v93 w93 j93 vb93 se93 te93 => ?_)
              · skip
                have k93 := lk_ge T z (lk T z p)
                have Sl93 := CL_t Sl4 sl93 tl93 (by omega)
                show ab_X (d + 5) mX8_readAtom 96 [(3, .int (iI 5)), (2, .int (iI (sg T z p))), (0, .ref 10), (1, .int (iI (D : Int)))] [.int (iI v93), .int (iI 0), .ref 11] l93 _
                refine ab_callV (As := [.int (iI 0), .int (iI v93)]) (rest := []) dX8_readAtom_96 lX8_59 rfl (Nat.le_of_ble_eq_true rfl) (Nat.le_of_ble_eq_true rfl) rfl ?_
                have q96 : (c).length + 1 ≤ q93 := by (try simp only [List.length_append, List.length_cons, List.length_nil]); omega
                have r96 := Sl93.2.1.2.2.2.2
                refine c_add11 Sl93.2.2.2 (by omega) (by decide) (by omega) (fun l96 sl96 Cl96 => ?_)
                have Sl96 := CL_add Sl93 q96 sl96 Cl96
                show ab_X (d + 5) mX8_readAtom 99 [(3, .int (iI 5)), (2, .int (iI (sg T z p))), (0, .ref 10), (1, .int (iI (D : Int)))] [] l96 _
                refine z_vret dX8_readAtom_99 rfl ?_
                have hli : li (sg T z p) = -1 := by unfold li; (repeat' split) <;> omega
                exact K1 _ _ _ ((atom_n (by omega) hli).trans (by rw [lk_lk] at j93; exact j93)) (by simp only [List.length_cons, List.length_nil]; omega) Sl96
              · skip
                have Se93 := CL_d Sl4 hz se93 te93
                show ab_X (d + 5) mX8_readAtom 96 [(3, .int (iI 5)), (2, .int (iI (sg T z p))), (0, .ref 10), (1, .int (iI (D : Int)))] [.int (iI v93), .int (iI 0), .ref 11] e93 _
                refine ab_callV (As := [.int (iI 0), .int (iI v93)]) (rest := []) dX8_readAtom_96 lX8_59 rfl (Nat.le_of_ble_eq_true rfl) (Nat.le_of_ble_eq_true rfl) rfl ?_
                refine c_add11d Se93.2.2 (fun e96 se96 Ce96 => ?_)
                have Se96 := CD_add Se93 se96 Ce96
                show ab_X (d + 5) mX8_readAtom 99 [(3, .int (iI 5)), (2, .int (iI (sg T z p))), (0, .ref 10), (1, .int (iI (D : Int)))] [] e96 _
                refine z_vret dX8_readAtom_99 rfl ?_
                have hli : li (sg T z p) = -1 := by unfold li; (repeat' split) <;> omega
                rw [lk_lk] at j93
                exact K0 _ _ ((congrArg Prod.fst (atom_n (by omega) hli)).trans j93) Se93.2.1.2.2.2 Se96
            · skip
              have z60 := sg_in (T := T) (z := z) (p := p) (by omega)
              refine ab_aload_n (k := 2) dX8_readAtom_60 rfl rfl ?_
              refine z_getP (b := 1) dX8_readAtom_61 fX8_18 rfl rfl rfl ?_
              refine ab_callV (As := []) (rest := []) dX8_readAtom_64 lX8_38 rfl (Nat.le_of_ble_eq_true rfl) (Nat.le_of_ble_eq_true rfl) rfl ?_
              refine c_tstep ht Sl4.2.1 (by omega) (fun l64 sl64 tl64 => ?_)
              have Sl64 := CL_t Sl4 sl64 tl64 (by omega)
              show ab_X (d + 5) mX8_readAtom 67 [(3, .int (iI 4)), (2, .int (iI (sg T z p))), (0, .ref 10), (1, .int (iI (D : Int)))] [] l64 _
              refine ab_aload_n (k := 2) dX8_readAtom_67 rfl rfl ?_
              refine z_getP (b := 11) dX8_readAtom_68 fX8_12 rfl rfl rfl ?_
              refine z_iconst dX8_readAtom_71 ?_
              refine ab_iload_n (k := 0) dX8_readAtom_72 rfl rfl ?_
              refine ab_callV (As := [.int (iI 1), .int (iI 4)]) (rest := []) dX8_readAtom_73 lX8_59 rfl (Nat.le_of_ble_eq_true rfl) (Nat.le_of_ble_eq_true rfl) rfl ?_
              have q73 : (c).length + 1 ≤ ((lk T z p) + 1) := by (try simp only [List.length_append, List.length_cons, List.length_nil]); omega
              have r73 := Sl64.2.1.2.2.2.2
              refine c_add11 Sl64.2.2.2 (by omega) (by decide) (by decide) (fun l73 sl73 Cl73 => ?_)
              have Sl73 := CL_add Sl64 q73 sl73 Cl73
              show ab_X (d + 5) mX8_readAtom 76 [(3, .int (iI 4)), (2, .int (iI (sg T z p))), (0, .ref 10), (1, .int (iI (D : Int)))] [] l73 _
              refine z_vret dX8_readAtom_76 rfl ?_
              have hli : li (sg T z p) = 4 := by unfold li; (repeat' split) <;> omega
              exact K1 _ _ _ (atom_l (by omega) hli (by decide)) (by simp only [List.length_cons, List.length_nil]; omega) Sl73
          · skip
            have z60 := sg_in (T := T) (z := z) (p := p) (by omega)
            refine ab_aload_n (k := 2) dX8_readAtom_60 rfl rfl ?_
            refine z_getP (b := 1) dX8_readAtom_61 fX8_18 rfl rfl rfl ?_
            refine ab_callV (As := []) (rest := []) dX8_readAtom_64 lX8_38 rfl (Nat.le_of_ble_eq_true rfl) (Nat.le_of_ble_eq_true rfl) rfl ?_
            refine c_tstep ht Sl4.2.1 (by omega) (fun l64 sl64 tl64 => ?_)
            have Sl64 := CL_t Sl4 sl64 tl64 (by omega)
            show ab_X (d + 5) mX8_readAtom 67 [(3, .int (iI 3)), (2, .int (iI (sg T z p))), (0, .ref 10), (1, .int (iI (D : Int)))] [] l64 _
            refine ab_aload_n (k := 2) dX8_readAtom_67 rfl rfl ?_
            refine z_getP (b := 11) dX8_readAtom_68 fX8_12 rfl rfl rfl ?_
            refine z_iconst dX8_readAtom_71 ?_
            refine ab_iload_n (k := 0) dX8_readAtom_72 rfl rfl ?_
            refine ab_callV (As := [.int (iI 1), .int (iI 3)]) (rest := []) dX8_readAtom_73 lX8_59 rfl (Nat.le_of_ble_eq_true rfl) (Nat.le_of_ble_eq_true rfl) rfl ?_
            have q73 : (c).length + 1 ≤ ((lk T z p) + 1) := by (try simp only [List.length_append, List.length_cons, List.length_nil]); omega
            have r73 := Sl64.2.1.2.2.2.2
            refine c_add11 Sl64.2.2.2 (by omega) (by decide) (by decide) (fun l73 sl73 Cl73 => ?_)
            have Sl73 := CL_add Sl64 q73 sl73 Cl73
            show ab_X (d + 5) mX8_readAtom 76 [(3, .int (iI 3)), (2, .int (iI (sg T z p))), (0, .ref 10), (1, .int (iI (D : Int)))] [] l73 _
            refine z_vret dX8_readAtom_76 rfl ?_
            have hli : li (sg T z p) = 3 := by unfold li; (repeat' split) <;> omega
            exact K1 _ _ _ (atom_l (by omega) hli (by decide)) (by simp only [List.length_cons, List.length_nil]; omega) Sl73
        · skip
          have z60 := sg_in (T := T) (z := z) (p := p) (by omega)
          refine ab_aload_n (k := 2) dX8_readAtom_60 rfl rfl ?_
          refine z_getP (b := 1) dX8_readAtom_61 fX8_18 rfl rfl rfl ?_
          refine ab_callV (As := []) (rest := []) dX8_readAtom_64 lX8_38 rfl (Nat.le_of_ble_eq_true rfl) (Nat.le_of_ble_eq_true rfl) rfl ?_
          refine c_tstep ht Sl4.2.1 (by omega) (fun l64 sl64 tl64 => ?_)
          have Sl64 := CL_t Sl4 sl64 tl64 (by omega)
          show ab_X (d + 5) mX8_readAtom 67 [(3, .int (iI 2)), (2, .int (iI (sg T z p))), (0, .ref 10), (1, .int (iI (D : Int)))] [] l64 _
          refine ab_aload_n (k := 2) dX8_readAtom_67 rfl rfl ?_
          refine z_getP (b := 11) dX8_readAtom_68 fX8_12 rfl rfl rfl ?_
          refine z_iconst dX8_readAtom_71 ?_
          refine ab_iload_n (k := 0) dX8_readAtom_72 rfl rfl ?_
          refine ab_callV (As := [.int (iI 1), .int (iI 2)]) (rest := []) dX8_readAtom_73 lX8_59 rfl (Nat.le_of_ble_eq_true rfl) (Nat.le_of_ble_eq_true rfl) rfl ?_
          have q73 : (c).length + 1 ≤ ((lk T z p) + 1) := by (try simp only [List.length_append, List.length_cons, List.length_nil]); omega
          have r73 := Sl64.2.1.2.2.2.2
          refine c_add11 Sl64.2.2.2 (by omega) (by decide) (by decide) (fun l73 sl73 Cl73 => ?_)
          have Sl73 := CL_add Sl64 q73 sl73 Cl73
          show ab_X (d + 5) mX8_readAtom 76 [(3, .int (iI 2)), (2, .int (iI (sg T z p))), (0, .ref 10), (1, .int (iI (D : Int)))] [] l73 _
          refine z_vret dX8_readAtom_76 rfl ?_
          have hli : li (sg T z p) = 2 := by unfold li; (repeat' split) <;> omega
          exact K1 _ _ _ (atom_l (by omega) hli (by decide)) (by simp only [List.length_cons, List.length_nil]; omega) Sl73
      · skip
        have z60 := sg_in (T := T) (z := z) (p := p) (by omega)
        refine ab_aload_n (k := 2) dX8_readAtom_60 rfl rfl ?_
        refine z_getP (b := 1) dX8_readAtom_61 fX8_18 rfl rfl rfl ?_
        refine ab_callV (As := []) (rest := []) dX8_readAtom_64 lX8_38 rfl (Nat.le_of_ble_eq_true rfl) (Nat.le_of_ble_eq_true rfl) rfl ?_
        refine c_tstep ht Sl4.2.1 (by omega) (fun l64 sl64 tl64 => ?_)
        have Sl64 := CL_t Sl4 sl64 tl64 (by omega)
        show ab_X (d + 5) mX8_readAtom 67 [(3, .int (iI 1)), (2, .int (iI (sg T z p))), (0, .ref 10), (1, .int (iI (D : Int)))] [] l64 _
        refine ab_aload_n (k := 2) dX8_readAtom_67 rfl rfl ?_
        refine z_getP (b := 11) dX8_readAtom_68 fX8_12 rfl rfl rfl ?_
        refine z_iconst dX8_readAtom_71 ?_
        refine ab_iload_n (k := 0) dX8_readAtom_72 rfl rfl ?_
        refine ab_callV (As := [.int (iI 1), .int (iI 1)]) (rest := []) dX8_readAtom_73 lX8_59 rfl (Nat.le_of_ble_eq_true rfl) (Nat.le_of_ble_eq_true rfl) rfl ?_
        have q73 : (c).length + 1 ≤ ((lk T z p) + 1) := by (try simp only [List.length_append, List.length_cons, List.length_nil]); omega
        have r73 := Sl64.2.1.2.2.2.2
        refine c_add11 Sl64.2.2.2 (by omega) (by decide) (by decide) (fun l73 sl73 Cl73 => ?_)
        have Sl73 := CL_add Sl64 q73 sl73 Cl73
        show ab_X (d + 5) mX8_readAtom 76 [(3, .int (iI 1)), (2, .int (iI (sg T z p))), (0, .ref 10), (1, .int (iI (D : Int)))] [] l73 _
        refine z_vret dX8_readAtom_76 rfl ?_
        have hli : li (sg T z p) = 1 := by unfold li; (repeat' split) <;> omega
        exact K1 _ _ _ (atom_l (by omega) hli (by decide)) (by simp only [List.length_cons, List.length_nil]; omega) Sl73
    · skip
      have z60 := sg_in (T := T) (z := z) (p := p) (by omega)
      refine ab_aload_n (k := 2) dX8_readAtom_60 rfl rfl ?_
      refine z_getP (b := 1) dX8_readAtom_61 fX8_18 rfl rfl rfl ?_
      refine ab_callV (As := []) (rest := []) dX8_readAtom_64 lX8_38 rfl (Nat.le_of_ble_eq_true rfl) (Nat.le_of_ble_eq_true rfl) rfl ?_
      refine c_tstep ht Sl4.2.1 (by omega) (fun l64 sl64 tl64 => ?_)
      have Sl64 := CL_t Sl4 sl64 tl64 (by omega)
      show ab_X (d + 5) mX8_readAtom 67 [(3, .int (iI 0)), (2, .int (iI (sg T z p))), (0, .ref 10), (1, .int (iI (D : Int)))] [] l64 _
      refine ab_aload_n (k := 2) dX8_readAtom_67 rfl rfl ?_
      refine z_getP (b := 11) dX8_readAtom_68 fX8_12 rfl rfl rfl ?_
      refine z_iconst dX8_readAtom_71 ?_
      refine ab_iload_n (k := 0) dX8_readAtom_72 rfl rfl ?_
      refine ab_callV (As := [.int (iI 1), .int (iI 0)]) (rest := []) dX8_readAtom_73 lX8_59 rfl (Nat.le_of_ble_eq_true rfl) (Nat.le_of_ble_eq_true rfl) rfl ?_
      have q73 : (c).length + 1 ≤ ((lk T z p) + 1) := by (try simp only [List.length_append, List.length_cons, List.length_nil]); omega
      have r73 := Sl64.2.1.2.2.2.2
      refine c_add11 Sl64.2.2.2 (by omega) (by decide) (by decide) (fun l73 sl73 Cl73 => ?_)
      have Sl73 := CL_add Sl64 q73 sl73 Cl73
      show ab_X (d + 5) mX8_readAtom 76 [(3, .int (iI 0)), (2, .int (iI (sg T z p))), (0, .ref 10), (1, .int (iI (D : Int)))] [] l73 _
      refine z_vret dX8_readAtom_76 rfl ?_
      have hli : li (sg T z p) = 0 := by unfold li; (repeat' split) <;> omega
      exact K1 _ _ _ (atom_l (by omega) hli (by decide)) (by simp only [List.length_cons, List.length_nil]; omega) Sl73
  · skip
    refine ab_aload_n (k := 1) dX8_readAtom_14 rfl rfl ?_
    refine ab_iload_n (k := 2) dX8_readAtom_15 rfl rfl ?_
    refine ab_callV (As := [.int (iI (D : Int))]) (rest := []) dX8_readAtom_16 lX8_76 rfl (Nat.le_of_ble_eq_true rfl) (Nat.le_of_ble_eq_true rfl) rfl ?_
    have z16 := sg_in (T := T) (z := z) (p := p) (by omega)
    refine c_goDeeper ht hD Sl4 (by omega) (lk_lk _ _ _) (fun D16 l16 Sl16 => ?_) (fun D16 e16 Se16 => ?_)
    · skip
      show ab_X (d + 5) mX8_readAtom 19 [(2, .int (iI (sg T z p))), (0, .ref 10), (1, .int (iI (D : Int)))] [.int (iI 1)] l16 _
      refine z_if_eq (tgt := 38) dX8_readAtom_19 (by decide) (by decide) (fun c19 => absurd c19 (by decide)) (fun _ => ?_)
      refine ab_aload_n (k := 1) dX8_readAtom_22 rfl rfl ?_
      refine ab_iload_n (k := 2) dX8_readAtom_23 rfl rfl ?_
      refine z_iconst dX8_readAtom_24 ?_
      refine z_iadd dX8_readAtom_25 ?_
      refine ab_callV (As := [.int (iI ((D : Int) + 1))]) (rest := []) dX8_readAtom_26 lX8_51 rfl (Nat.le_of_ble_eq_true rfl) (Nat.le_of_ble_eq_true rfl) rfl ?_
      obtain ⟨g, hg, hS⟩ := hs1 (by omega)
      refine hS h0 _ _ _ _ Sl16 (fun l26 p26 c26 j26 b26 Sl26 => ?_) (fun e26 w26 j26 n26 Se26 => ?_)
      · skip
        have r26 := Sl26.2.1.2.2.2.2
        show ab_X (d + 5) mX8_readAtom 29 [(2, .int (iI (sg T z p))), (0, .ref 10), (1, .int (iI (D : Int)))] [] l26 _
        refine ab_aload_n (k := 1) dX8_readAtom_29 rfl rfl ?_
        refine z_getP (b := 1) dX8_readAtom_30 fX8_18 rfl rfl rfl ?_
        refine z_bipush dX8_readAtom_33 (by decide) ?_
        refine ab_callV (As := [.int (iI 93)]) (rest := []) dX8_readAtom_35 lX8_47 rfl (Nat.le_of_ble_eq_true rfl) (Nat.le_of_ble_eq_true rfl) rfl ?_
        have k35 := lk_ge T z p26
        refine c_texpect ht (by decide) Sl26.2.1 (fun x35 l35 sl35 tl35 => ?_) (fun x35 e35 se35 te35 => ?_)
        · skip
          have Sl35 := CL_t Sl26 sl35 tl35 (by omega)
          have b35 := Sl35.2.1.2.2.2.2
          show ab_X (d + 5) mX8_readAtom 38 [(2, .int (iI (sg T z p))), (0, .ref 10), (1, .int (iI (D : Int)))] [] l35 _
          refine z_vret dX8_readAtom_38 rfl ?_
          exact K1 _ _ c26 (atom_1 (by omega) hg j26 x35) (by omega) Sl35
        · skip
          have Se35 := CL_d Sl26 hz se35 te35
          show ab_X (d + 5) mX8_readAtom 38 [(2, .int (iI (sg T z p))), (0, .ref 10), (1, .int (iI (D : Int)))] [] e35 _
          refine z_vret dX8_readAtom_38 rfl ?_
          first | exact K0 _ _ (atom_2 (by omega) hg j26 x35) (by omega) Se35 | exact K0 _ _ (atom_3 (by omega) hg j26 n26) n26 Se35
      · skip
        show ab_X (d + 5) mX8_readAtom 29 [(2, .int (iI (sg T z p))), (0, .ref 10), (1, .int (iI (D : Int)))] [] e26 _
        refine ab_aload_n (k := 1) dX8_readAtom_29 rfl rfl ?_
        refine z_getP (b := 1) dX8_readAtom_30 fX8_18 rfl rfl rfl ?_
        refine z_bipush dX8_readAtom_33 (by decide) ?_
        refine ab_callV (As := [.int (iI 93)]) (rest := []) dX8_readAtom_35 lX8_47 rfl (Nat.le_of_ble_eq_true rfl) (Nat.le_of_ble_eq_true rfl) rfl ?_
        refine c_dexpect hz (by decide) Se26.2.1 (fun e35 se35 te35 => ?_)
        have Se35 := CD_d Se26 se35 te35
        show ab_X (d + 5) mX8_readAtom 38 [(2, .int (iI (sg T z p))), (0, .ref 10), (1, .int (iI (D : Int)))] [] e35 _
        refine z_vret dX8_readAtom_38 rfl ?_
        first | exact K0 _ _ (atom_2 (by omega) hg j26 x35) (by omega) Se35 | exact K0 _ _ (atom_3 (by omega) hg j26 n26) n26 Se35
    · skip
      rw [lk_lk] at Se16
      show ab_X (d + 5) mX8_readAtom 19 [(2, .int (iI (sg T z p))), (0, .ref 10), (1, .int (iI (D : Int)))] [.int (iI 0)] e16 _
      refine z_if_eq (tgt := 38) dX8_readAtom_19 (by decide) (by decide) (fun _ => ?_) (fun c19 => absurd c19 (by decide))
      refine z_vret dX8_readAtom_38 rfl ?_
      exact K0 _ _ (atom_4 (by omega) (hs0 D16)) (by omega) Se16
theorem c_readAtomD {d : Nat} {h : ab_H} {Q : ab_Q} {z : Nat} {h0 : ab_H} {w : Int} {D : Int} (hz : z ≤ 160) (Sh : CD z h0 h w) (K : ∀ h', CD z h0 h' w → Q none h') : ab_X (d + 5) mX8_readAtom 0 (lv_args 0 [.ref 10, .int (iI D)]) [] h Q := by
  show ab_X (d + 5) mX8_readAtom 0 [(0, .ref 10), (1, .int (iI D))] [] h Q
  refine ab_aload_n (k := 0) dX8_readAtom_0 rfl rfl ?_
  refine z_getP (b := 1) dX8_readAtom_1 fX8_18 rfl rfl rfl ?_
  refine ab_callV (As := []) (rest := []) dX8_readAtom_4 lX8_34 rfl (Nat.le_of_ble_eq_true rfl) (Nat.le_of_ble_eq_true rfl) rfl ?_
  refine c_dlook hz Sh.2.1 (fun e4 se4 te4 => ?_)
  have Se4 := CD_d Sh se4 te4
  show ab_X (d + 5) mX8_readAtom 7 [(0, .ref 10), (1, .int (iI D))] [.int (iI (-1))] e4 _
  refine ab_istore_n (ls' := [(2, .int (iI (-1))), (0, .ref 10), (1, .int (iI D))]) dX8_readAtom_7 rfl (by decide) rfl ?_
  refine ab_iload_n (k := 0) dX8_readAtom_8 rfl rfl ?_
  refine z_bipush dX8_readAtom_9 (by decide) ?_
  refine z_icmp_ne (tgt := 39) dX8_readAtom_11 (by decide) (by decide) (by decide) (fun _ => ?_) (fun c11 => absurd c11 (by decide))
  refine z_iconst dX8_readAtom_39 ?_
  refine ab_istore_n (ls' := [(3, .int (iI 0)), (2, .int (iI (-1))), (0, .ref 10), (1, .int (iI D))]) dX8_readAtom_40 rfl (by decide) rfl ?_
  refine ab_iload_n (k := 0) dX8_readAtom_41 rfl rfl ?_
  refine ab_ldcs (j := 3) dX8_readAtom_42 (by decide) ?_
  refine ab_callT (As := []) (rest := [.int (iI 0)]) dX8_readAtom_44 lX8_88 (by decide) (Nat.le_of_ble_eq_true rfl) (Nat.le_of_ble_eq_true rfl) rfl ?_
  refine c_slen (j := 3) (by decide) ?_
  show ab_X (d + 5) mX8_readAtom 47 [(3, .int (iI 0)), (2, .int (iI (-1))), (0, .ref 10), (1, .int (iI D))] [.int (iI 5), .int (iI 0)] e4 _
  refine z_icmp_ge (tgt := 83) dX8_readAtom_47 (by decide) (by decide) (by decide) (fun c47 => absurd c47 (by decide)) (fun _ => ?_)
  refine ab_ldcs (j := 3) dX8_readAtom_50 (by decide) ?_
  refine ab_iload_n (k := 0) dX8_readAtom_52 rfl rfl ?_
  refine ab_callT (As := [.int (iI 0)]) (rest := []) dX8_readAtom_53 lX8_93 (by decide) (Nat.le_of_ble_eq_true rfl) (Nat.le_of_ble_eq_true rfl) rfl ?_
  refine c_charAt (j := 3) (i := 0) (by decide) (by decide) ?_
  show ab_X (d + 5) mX8_readAtom 56 [(3, .int (iI 0)), (2, .int (iI (-1))), (0, .ref 10), (1, .int (iI D))] [.int (iI 112)] e4 _
  refine ab_iload_n (k := 1) dX8_readAtom_56 rfl rfl ?_
  refine z_icmp_ne (tgt := 77) dX8_readAtom_57 (by decide) (by decide) (by decide) (fun _ => ?_) (fun c57 => absurd c57 (by decide))
  refine z_iinc (k := 0) (v := 1) (ls' := [(3, .int (iI 1)), (2, .int (iI (-1))), (0, .ref 10), (1, .int (iI D))]) dX8_readAtom_77 rfl rfl (by decide) rfl ?_
  refine ab_goto (tgt := 41) dX8_readAtom_80 (by decide) ?_
  refine ab_iload_n (k := 0) dX8_readAtom_41 rfl rfl ?_
  refine ab_ldcs (j := 3) dX8_readAtom_42 (by decide) ?_
  refine ab_callT (As := []) (rest := [.int (iI 1)]) dX8_readAtom_44 lX8_88 (by decide) (Nat.le_of_ble_eq_true rfl) (Nat.le_of_ble_eq_true rfl) rfl ?_
  refine c_slen (j := 3) (by decide) ?_
  show ab_X (d + 5) mX8_readAtom 47 [(3, .int (iI 1)), (2, .int (iI (-1))), (0, .ref 10), (1, .int (iI D))] [.int (iI 5), .int (iI 1)] e4 _
  refine z_icmp_ge (tgt := 83) dX8_readAtom_47 (by decide) (by decide) (by decide) (fun c47 => absurd c47 (by decide)) (fun _ => ?_)
  refine ab_ldcs (j := 3) dX8_readAtom_50 (by decide) ?_
  refine ab_iload_n (k := 0) dX8_readAtom_52 rfl rfl ?_
  refine ab_callT (As := [.int (iI 1)]) (rest := []) dX8_readAtom_53 lX8_93 (by decide) (Nat.le_of_ble_eq_true rfl) (Nat.le_of_ble_eq_true rfl) rfl ?_
  refine c_charAt (j := 3) (i := 1) (by decide) (by decide) ?_
  show ab_X (d + 5) mX8_readAtom 56 [(3, .int (iI 1)), (2, .int (iI (-1))), (0, .ref 10), (1, .int (iI D))] [.int (iI 108)] e4 _
  refine ab_iload_n (k := 1) dX8_readAtom_56 rfl rfl ?_
  refine z_icmp_ne (tgt := 77) dX8_readAtom_57 (by decide) (by decide) (by decide) (fun _ => ?_) (fun c57 => absurd c57 (by decide))
  refine z_iinc (k := 0) (v := 2) (ls' := [(3, .int (iI 2)), (2, .int (iI (-1))), (0, .ref 10), (1, .int (iI D))]) dX8_readAtom_77 rfl rfl (by decide) rfl ?_
  refine ab_goto (tgt := 41) dX8_readAtom_80 (by decide) ?_
  refine ab_iload_n (k := 0) dX8_readAtom_41 rfl rfl ?_
  refine ab_ldcs (j := 3) dX8_readAtom_42 (by decide) ?_
  refine ab_callT (As := []) (rest := [.int (iI 2)]) dX8_readAtom_44 lX8_88 (by decide) (Nat.le_of_ble_eq_true rfl) (Nat.le_of_ble_eq_true rfl) rfl ?_
  refine c_slen (j := 3) (by decide) ?_
  show ab_X (d + 5) mX8_readAtom 47 [(3, .int (iI 2)), (2, .int (iI (-1))), (0, .ref 10), (1, .int (iI D))] [.int (iI 5), .int (iI 2)] e4 _
  refine z_icmp_ge (tgt := 83) dX8_readAtom_47 (by decide) (by decide) (by decide) (fun c47 => absurd c47 (by decide)) (fun _ => ?_)
  refine ab_ldcs (j := 3) dX8_readAtom_50 (by decide) ?_
  refine ab_iload_n (k := 0) dX8_readAtom_52 rfl rfl ?_
  refine ab_callT (As := [.int (iI 2)]) (rest := []) dX8_readAtom_53 lX8_93 (by decide) (Nat.le_of_ble_eq_true rfl) (Nat.le_of_ble_eq_true rfl) rfl ?_
  refine c_charAt (j := 3) (i := 2) (by decide) (by decide) ?_
  show ab_X (d + 5) mX8_readAtom 56 [(3, .int (iI 2)), (2, .int (iI (-1))), (0, .ref 10), (1, .int (iI D))] [.int (iI 98)] e4 _
  refine ab_iload_n (k := 1) dX8_readAtom_56 rfl rfl ?_
  refine z_icmp_ne (tgt := 77) dX8_readAtom_57 (by decide) (by decide) (by decide) (fun _ => ?_) (fun c57 => absurd c57 (by decide))
  refine z_iinc (k := 0) (v := 3) (ls' := [(3, .int (iI 3)), (2, .int (iI (-1))), (0, .ref 10), (1, .int (iI D))]) dX8_readAtom_77 rfl rfl (by decide) rfl ?_
  refine ab_goto (tgt := 41) dX8_readAtom_80 (by decide) ?_
  refine ab_iload_n (k := 0) dX8_readAtom_41 rfl rfl ?_
  refine ab_ldcs (j := 3) dX8_readAtom_42 (by decide) ?_
  refine ab_callT (As := []) (rest := [.int (iI 3)]) dX8_readAtom_44 lX8_88 (by decide) (Nat.le_of_ble_eq_true rfl) (Nat.le_of_ble_eq_true rfl) rfl ?_
  refine c_slen (j := 3) (by decide) ?_
  show ab_X (d + 5) mX8_readAtom 47 [(3, .int (iI 3)), (2, .int (iI (-1))), (0, .ref 10), (1, .int (iI D))] [.int (iI 5), .int (iI 3)] e4 _
  refine z_icmp_ge (tgt := 83) dX8_readAtom_47 (by decide) (by decide) (by decide) (fun c47 => absurd c47 (by decide)) (fun _ => ?_)
  refine ab_ldcs (j := 3) dX8_readAtom_50 (by decide) ?_
  refine ab_iload_n (k := 0) dX8_readAtom_52 rfl rfl ?_
  refine ab_callT (As := [.int (iI 3)]) (rest := []) dX8_readAtom_53 lX8_93 (by decide) (Nat.le_of_ble_eq_true rfl) (Nat.le_of_ble_eq_true rfl) rfl ?_
  refine c_charAt (j := 3) (i := 3) (by decide) (by decide) ?_
  show ab_X (d + 5) mX8_readAtom 56 [(3, .int (iI 3)), (2, .int (iI (-1))), (0, .ref 10), (1, .int (iI D))] [.int (iI 97)] e4 _
  refine ab_iload_n (k := 1) dX8_readAtom_56 rfl rfl ?_
  refine z_icmp_ne (tgt := 77) dX8_readAtom_57 (by decide) (by decide) (by decide) (fun _ => ?_) (fun c57 => absurd c57 (by decide))
  refine z_iinc (k := 0) (v := 4) (ls' := [(3, .int (iI 4)), (2, .int (iI (-1))), (0, .ref 10), (1, .int (iI D))]) dX8_readAtom_77 rfl rfl (by decide) rfl ?_
  refine ab_goto (tgt := 41) dX8_readAtom_80 (by decide) ?_
  refine ab_iload_n (k := 0) dX8_readAtom_41 rfl rfl ?_
  refine ab_ldcs (j := 3) dX8_readAtom_42 (by decide) ?_
  refine ab_callT (As := []) (rest := [.int (iI 4)]) dX8_readAtom_44 lX8_88 (by decide) (Nat.le_of_ble_eq_true rfl) (Nat.le_of_ble_eq_true rfl) rfl ?_
  refine c_slen (j := 3) (by decide) ?_
  show ab_X (d + 5) mX8_readAtom 47 [(3, .int (iI 4)), (2, .int (iI (-1))), (0, .ref 10), (1, .int (iI D))] [.int (iI 5), .int (iI 4)] e4 _
  refine z_icmp_ge (tgt := 83) dX8_readAtom_47 (by decide) (by decide) (by decide) (fun c47 => absurd c47 (by decide)) (fun _ => ?_)
  refine ab_ldcs (j := 3) dX8_readAtom_50 (by decide) ?_
  refine ab_iload_n (k := 0) dX8_readAtom_52 rfl rfl ?_
  refine ab_callT (As := [.int (iI 4)]) (rest := []) dX8_readAtom_53 lX8_93 (by decide) (Nat.le_of_ble_eq_true rfl) (Nat.le_of_ble_eq_true rfl) rfl ?_
  refine c_charAt (j := 3) (i := 4) (by decide) (by decide) ?_
  show ab_X (d + 5) mX8_readAtom 56 [(3, .int (iI 4)), (2, .int (iI (-1))), (0, .ref 10), (1, .int (iI D))] [.int (iI 110)] e4 _
  refine ab_iload_n (k := 1) dX8_readAtom_56 rfl rfl ?_
  refine z_icmp_ne (tgt := 77) dX8_readAtom_57 (by decide) (by decide) (by decide) (fun _ => ?_) (fun c57 => absurd c57 (by decide))
  refine z_iinc (k := 0) (v := 5) (ls' := [(3, .int (iI 5)), (2, .int (iI (-1))), (0, .ref 10), (1, .int (iI D))]) dX8_readAtom_77 rfl rfl (by decide) rfl ?_
  refine ab_goto (tgt := 41) dX8_readAtom_80 (by decide) ?_
  refine ab_iload_n (k := 0) dX8_readAtom_41 rfl rfl ?_
  refine ab_ldcs (j := 3) dX8_readAtom_42 (by decide) ?_
  refine ab_callT (As := []) (rest := [.int (iI 5)]) dX8_readAtom_44 lX8_88 (by decide) (Nat.le_of_ble_eq_true rfl) (Nat.le_of_ble_eq_true rfl) rfl ?_
  refine c_slen (j := 3) (by decide) ?_
  show ab_X (d + 5) mX8_readAtom 47 [(3, .int (iI 5)), (2, .int (iI (-1))), (0, .ref 10), (1, .int (iI D))] [.int (iI 5), .int (iI 5)] e4 _
  refine z_icmp_ge (tgt := 83) dX8_readAtom_47 (by decide) (by decide) (by decide) (fun _ => ?_) (fun c47 => absurd c47 (by decide))
  refine ab_aload_n (k := 2) dX8_readAtom_83 rfl rfl ?_
  refine z_getP (b := 11) dX8_readAtom_84 fX8_12 rfl rfl rfl ?_
  refine z_iconst dX8_readAtom_87 ?_
  refine ab_aload_n (k := 2) dX8_readAtom_88 rfl rfl ?_
  refine z_getP (b := 1) dX8_readAtom_89 fX8_18 rfl rfl rfl ?_
  refine z_iconst dX8_readAtom_92 ?_
  refine ab_callV (As := [.int (iI 4)]) (rest := [.int (iI 0), .ref 11]) dX8_readAtom_93 lX8_97 rfl (Nat.le_of_ble_eq_true rfl) (Nat.le_of_ble_eq_true rfl) rfl ?_
  refine c_dnumber hz Se4.2.1 (fun e93 se93 te93 => ?_)
  have Se93 := CD_d Se4 se93 te93
  show ab_X (d + 5) mX8_readAtom 96 [(3, .int (iI 5)), (2, .int (iI (-1))), (0, .ref 10), (1, .int (iI D))] [.int (iI 0), .int (iI 0), .ref 11] e93 _
  refine ab_callV (As := [.int (iI 0), .int (iI 0)]) (rest := []) dX8_readAtom_96 lX8_59 rfl (Nat.le_of_ble_eq_true rfl) (Nat.le_of_ble_eq_true rfl) rfl ?_
  refine c_add11d Se93.2.2 (fun e96 se96 Ce96 => ?_)
  have Se96 := CD_add Se93 se96 Ce96
  show ab_X (d + 5) mX8_readAtom 99 [(3, .int (iI 5)), (2, .int (iI (-1))), (0, .ref 10), (1, .int (iI D))] [] e96 _
  refine z_vret dX8_readAtom_99 rfl ?_
  exact K _ Se96
theorem dl_readTerm {d : Nat} {h : ab_H} {Q : ab_Q} {z : Nat} {h0 : ab_H} {w : Int} {D i : Nat}  (hi : i ≤ 160) (hz : z ≤ 160) (Sh : CD z h0 h w) (K : ∀ h', CD z h0 h' w → Q none h') : ab_X (d + 6) mX8_readTerm 7 [(0, .ref 10), (1, .int (iI (D : Int))), (2, .int (iI (i : Int)))] [] h Q := by
  refine ab_iload_n (k := 2) dX8_readTerm_7 rfl rfl ?_
  refine z_sipush dX8_readTerm_8 (by decide) ?_
  refine z_icmp_ge (tgt := 72) dX8_readTerm_11 (by decide) (by omega) (by decide) (fun c11 => ?_) (fun c11 => ?_)
  · skip
    refine z_vret dX8_readTerm_72 rfl ?_
    exact K _ Sh
  · skip
    refine ab_aload_n (k := 0) dX8_readTerm_14 rfl rfl ?_
    refine z_getP (b := 1) dX8_readTerm_15 fX8_18 rfl rfl rfl ?_
    refine ab_callV (As := []) (rest := []) dX8_readTerm_18 lX8_34 rfl (Nat.le_of_ble_eq_true rfl) (Nat.le_of_ble_eq_true rfl) rfl ?_
    refine c_dlook hz Sh.2.1 (fun e18 se18 te18 => ?_)
    have Se18 := CD_d Sh se18 te18
    show ab_X (d + 6) mX8_readTerm 21 [(0, .ref 10), (1, .int (iI (D : Int))), (2, .int (iI (i : Int)))] [.int (iI (-1))] e18 _
    refine ab_istore_n (ls' := [(3, .int (iI (-1))), (0, .ref 10), (1, .int (iI (D : Int))), (2, .int (iI (i : Int)))]) dX8_readTerm_21 rfl (by decide) rfl ?_
    refine ab_iload_n (k := 0) dX8_readTerm_22 rfl rfl ?_
    refine z_bipush dX8_readTerm_23 (by decide) ?_
    refine z_icmp_eq (tgt := 35) dX8_readTerm_25 (by decide) (by decide) (by decide) (fun c25 => absurd c25 (by decide)) (fun _ => ?_)
    refine ab_iload_n (k := 0) dX8_readTerm_28 rfl rfl ?_
    refine z_bipush dX8_readTerm_29 (by decide) ?_
    refine z_icmp_eq (tgt := 35) dX8_readTerm_31 (by decide) (by decide) (by decide) (fun c31 => absurd c31 (by decide)) (fun _ => ?_)
    refine z_vret dX8_readTerm_34 rfl ?_
    exact K _ Se18
theorem lp_readTerm {d : Nat} {Q : ab_Q} {T : Nat → Int} {z : Nat} {h0 : ab_H} {p0 D : Nat} {c : List (Int × Int)} {nx : Nat → pR} {R : pR}  (ht : tx T z) (hD : D ≤ 6) (hN : rdC T z mX8_readAtom [.ref 10, .int (iI (D : Int))] nx (d + 5)) (hND : rdD z mX8_readAtom [.ref 10, .int (iI (D : Int))] (d + 5)) (K1 : ∀ h' p' c', R = (-1, p', c') → p0 + c'.length ≤ p' → CL T z h0 h' p' (c ++ c') → Q none h') (K0 : ∀ h' w, R.1 = w → ¬ w = -1 → CD z h0 h' w → Q none h') : ∀ (nn : Nat) (q : Nat) (i : Nat) (c1 : List (Int × Int)) (h : ab_H), 160 - i = nn → (CL T z h0 h q (c ++ c1)) → (i ≤ 160) → (i ≤ q) → (p0 + c1.length ≤ q) → (seqL T z nx 42 47 4 5 (160 - i) q c1 = R) → ab_X (d + 6) mX8_readTerm 7 [(0, .ref 10), (1, .int (iI (D : Int))), (2, .int (iI (i : Int)))] [] h Q := by
  intro nn
  induction nn using Nat.strongRecOn with
  | ind nn ih =>
  intro q i c1 h hnn Sh hi hiq hl hR
  have hz := ht.1
  have hpz := Sh.2.1.2.2.2.2
  have hcl := Sh.2.2.1
  rw [List.length_append] at hcl
  refine ab_iload_n (k := 2) dX8_readTerm_7 rfl rfl ?_
  refine z_sipush dX8_readTerm_8 (by decide) ?_
  refine z_icmp_ge (tgt := 72) dX8_readTerm_11 (by decide) (by omega) (by decide) (fun c11 => ?_) (fun c11 => ?_)
  · skip
    refine z_vret dX8_readTerm_72 rfl ?_
    have e1 := lk_n (T := T) (z := z) (p := q) (by omega)
    have e2 : sg T z q = -1 := by unfold sg; rw [e1, if_neg (by omega)]
    have e3 := seqL_n (T := T) (z := z) (next := nx) (a := 42) (b := 47) (oa := 4) (ob := 5) (p := q) (c := c1) (by rw [e2]; rfl) (160 - i)
    rw [hR, e1] at e3
    exact K1 _ _ _ e3 (by omega) Sh
  · skip
    refine ab_aload_n (k := 0) dX8_readTerm_14 rfl rfl ?_
    refine z_getP (b := 1) dX8_readTerm_15 fX8_18 rfl rfl rfl ?_
    refine ab_callV (As := []) (rest := []) dX8_readTerm_18 lX8_34 rfl (Nat.le_of_ble_eq_true rfl) (Nat.le_of_ble_eq_true rfl) rfl ?_
    refine c_tlook ht Sh.2.1 (fun l18 sl18 tl18 => ?_)
    have k18 := lk_ge T z q
    have Sl18 := CL_t Sh sl18 tl18 (by omega)
    have y18 := sg_b ht q
    show ab_X (d + 6) mX8_readTerm 21 [(0, .ref 10), (1, .int (iI (D : Int))), (2, .int (iI (i : Int)))] [.int (iI (sg T z q))] l18 _
    refine ab_istore_n (ls' := [(3, .int (iI (sg T z q))), (0, .ref 10), (1, .int (iI (D : Int))), (2, .int (iI (i : Int)))]) dX8_readTerm_21 rfl (by decide) rfl ?_
    refine ab_iload_n (k := 0) dX8_readTerm_22 rfl rfl ?_
    refine z_bipush dX8_readTerm_23 (by decide) ?_
    refine z_icmp_eq (tgt := 35) dX8_readTerm_25 (by decide) (by omega) (by decide) (fun c25 => ?_) (fun c25 => ?_)
    · skip
      have zz := sg_in (T := T) (z := z) (p := q) (by omega)
      refine ab_aload_n (k := 1) dX8_readTerm_35 rfl rfl ?_
      refine z_getP (b := 1) dX8_readTerm_36 fX8_18 rfl rfl rfl ?_
      refine ab_callV (As := []) (rest := []) dX8_readTerm_39 lX8_38 rfl (Nat.le_of_ble_eq_true rfl) (Nat.le_of_ble_eq_true rfl) rfl ?_
      refine c_tstep ht Sl18.2.1 (by omega) (fun l39 sl39 tl39 => ?_)
      have Sl39 := CL_t Sl18 sl39 tl39 (by omega)
      show ab_X (d + 6) mX8_readTerm 42 [(3, .int (iI (sg T z q))), (0, .ref 10), (1, .int (iI (D : Int))), (2, .int (iI (i : Int)))] [] l39 _
      refine ab_aload_n (k := 1) dX8_readTerm_42 rfl rfl ?_
      refine ab_iload_n (k := 2) dX8_readTerm_43 rfl rfl ?_
      refine ab_callV (As := [.int (iI (D : Int))]) (rest := []) dX8_readTerm_44 lX8_83 rfl (Nat.le_of_ble_eq_true rfl) (Nat.le_of_ble_eq_true rfl) rfl ?_
      refine hN h0 _ _ _ _ Sl39 (fun l44 p44 c44 j44 b44 Sl44 => ?_) (fun e44 w44 j44 n44 Se44 => ?_)
      · skip
        have r44 := Sl44.2.1.2.2.2.2
        show ab_X (d + 6) mX8_readTerm 47 [(3, .int (iI (sg T z q))), (0, .ref 10), (1, .int (iI (D : Int))), (2, .int (iI (i : Int)))] [] l44 _
        refine ab_aload_n (k := 1) dX8_readTerm_47 rfl rfl ?_
        refine z_getP (b := 11) dX8_readTerm_48 fX8_12 rfl rfl rfl ?_
        refine ab_iload_n (k := 0) dX8_readTerm_51 rfl rfl ?_
        refine z_bipush dX8_readTerm_52 (by decide) ?_
        refine z_icmp_ne (tgt := 61) dX8_readTerm_54 (by decide) (by omega) (by decide) (fun c54 => ?_) (fun c54 => ?_)
        · skip
          have hop : opo 42 47 4 5 (sg T z q) = 5 := by unfold opo; rw [if_neg (by omega), if_pos (by omega)]
          refine z_iconst dX8_readTerm_61 ?_
          refine z_iconst dX8_readTerm_62 ?_
          refine ab_callV (As := [.int (iI 5), .int (iI 0)]) (rest := []) dX8_readTerm_63 lX8_59 rfl (Nat.le_of_ble_eq_true rfl) (Nat.le_of_ble_eq_true rfl) rfl ?_
          have q63 : (((c ++ c1) ++ c44)).length + 1 ≤ p44 := by (try simp only [List.length_append, List.length_cons, List.length_nil]); omega
          have r63 := Sl44.2.1.2.2.2.2
          refine c_add11 Sl44.2.2.2 (by omega) (by decide) (by decide) (fun l63 sl63 Cl63 => ?_)
          have Sl63 := CL_add Sl44 q63 sl63 Cl63
          show ab_X (d + 6) mX8_readTerm 66 [(3, .int (iI (sg T z q))), (0, .ref 10), (1, .int (iI (D : Int))), (2, .int (iI (i : Int)))] [] l63 _
          refine z_iinc (k := 3) (v := (i : Int) + 1) (ls' := [(2, .int (iI ((i : Int) + 1))), (3, .int (iI (sg T z q))), (0, .ref 10), (1, .int (iI (D : Int)))]) dX8_readTerm_66 rfl rfl (by decide) rfl ?_
          refine ab_goto (tgt := 7) dX8_readTerm_69 (by decide) ?_
          refine ab_sub (ls' := [(0, .ref 10), (1, .int (iI (D : Int))), (2, .int (iI ((i : Int) + 1)))]) (ks := [2, 3, 0]) rfl ?_
          refine ih _ (by omega) p44 (i + 1) (c1 ++ (c44 ++ [(5, 0)])) _ rfl ?_ (by omega) (by omega) ?_ ?_
          · simp only [List.append_assoc] at Sl63; exact Sl63
          · simp only [List.length_append, List.length_cons, List.length_nil]; omega
          · rw [← hR, show 160 - i = (160 - (i + 1)) + 1 by omega]
            exact (seqL_1 hop (by decide) j44).symm
        · skip
          have hop : opo 42 47 4 5 (sg T z q) = 4 := by unfold opo; rw [if_pos (by omega)]
          refine z_iconst dX8_readTerm_57 ?_
          refine ab_goto (tgt := 62) dX8_readTerm_58 (by decide) ?_
          refine z_iconst dX8_readTerm_62 ?_
          refine ab_callV (As := [.int (iI 4), .int (iI 0)]) (rest := []) dX8_readTerm_63 lX8_59 rfl (Nat.le_of_ble_eq_true rfl) (Nat.le_of_ble_eq_true rfl) rfl ?_
          have q63 : (((c ++ c1) ++ c44)).length + 1 ≤ p44 := by (try simp only [List.length_append, List.length_cons, List.length_nil]); omega
          have r63 := Sl44.2.1.2.2.2.2
          refine c_add11 Sl44.2.2.2 (by omega) (by decide) (by decide) (fun l63 sl63 Cl63 => ?_)
          have Sl63 := CL_add Sl44 q63 sl63 Cl63
          show ab_X (d + 6) mX8_readTerm 66 [(3, .int (iI (sg T z q))), (0, .ref 10), (1, .int (iI (D : Int))), (2, .int (iI (i : Int)))] [] l63 _
          refine z_iinc (k := 3) (v := (i : Int) + 1) (ls' := [(2, .int (iI ((i : Int) + 1))), (3, .int (iI (sg T z q))), (0, .ref 10), (1, .int (iI (D : Int)))]) dX8_readTerm_66 rfl rfl (by decide) rfl ?_
          refine ab_goto (tgt := 7) dX8_readTerm_69 (by decide) ?_
          refine ab_sub (ls' := [(0, .ref 10), (1, .int (iI (D : Int))), (2, .int (iI ((i : Int) + 1)))]) (ks := [2, 3, 0]) rfl ?_
          refine ih _ (by omega) p44 (i + 1) (c1 ++ (c44 ++ [(4, 0)])) _ rfl ?_ (by omega) (by omega) ?_ ?_
          · simp only [List.append_assoc] at Sl63; exact Sl63
          · simp only [List.length_append, List.length_cons, List.length_nil]; omega
          · rw [← hR, show 160 - i = (160 - (i + 1)) + 1 by omega]
            exact (seqL_1 hop (by decide) j44).symm
      · skip
        show ab_X (d + 6) mX8_readTerm 47 [(3, .int (iI (sg T z q))), (0, .ref 10), (1, .int (iI (D : Int))), (2, .int (iI (i : Int)))] [] e44 _
        refine ab_aload_n (k := 1) dX8_readTerm_47 rfl rfl ?_
        refine z_getP (b := 11) dX8_readTerm_48 fX8_12 rfl rfl rfl ?_
        refine ab_iload_n (k := 0) dX8_readTerm_51 rfl rfl ?_
        refine z_bipush dX8_readTerm_52 (by decide) ?_
        refine z_icmp_ne (tgt := 61) dX8_readTerm_54 (by decide) (by omega) (by decide) (fun c54 => ?_) (fun c54 => ?_)
        · skip
          have hop : opo 42 47 4 5 (sg T z q) = 5 := by unfold opo; rw [if_neg (by omega), if_pos (by omega)]
          refine z_iconst dX8_readTerm_61 ?_
          refine z_iconst dX8_readTerm_62 ?_
          refine ab_callV (As := [.int (iI 5), .int (iI 0)]) (rest := []) dX8_readTerm_63 lX8_59 rfl (Nat.le_of_ble_eq_true rfl) (Nat.le_of_ble_eq_true rfl) rfl ?_
          refine c_add11d Se44.2.2 (fun e63 se63 Ce63 => ?_)
          have Se63 := CD_add Se44 se63 Ce63
          show ab_X (d + 6) mX8_readTerm 66 [(3, .int (iI (sg T z q))), (0, .ref 10), (1, .int (iI (D : Int))), (2, .int (iI (i : Int)))] [] e63 _
          refine z_iinc (k := 3) (v := (i : Int) + 1) (ls' := [(2, .int (iI ((i : Int) + 1))), (3, .int (iI (sg T z q))), (0, .ref 10), (1, .int (iI (D : Int)))]) dX8_readTerm_66 rfl rfl (by decide) rfl ?_
          refine ab_goto (tgt := 7) dX8_readTerm_69 (by decide) ?_
          refine ab_sub (ls' := [(0, .ref 10), (1, .int (iI (D : Int))), (2, .int (iI ((i : Int) + 1)))]) (ks := [2, 3, 0]) rfl ?_
          exact dl_readTerm (i := i + 1) (by omega) hz Se63 (fun h' S' => K0 h' _ (by rw [← hR, show 160 - i = (159 - i) + 1 by omega]; exact seqL_2 (by rw [hop]; decide) j44 n44) n44 S')
        · skip
          have hop : opo 42 47 4 5 (sg T z q) = 4 := by unfold opo; rw [if_pos (by omega)]
          refine z_iconst dX8_readTerm_57 ?_
          refine ab_goto (tgt := 62) dX8_readTerm_58 (by decide) ?_
          refine z_iconst dX8_readTerm_62 ?_
          refine ab_callV (As := [.int (iI 4), .int (iI 0)]) (rest := []) dX8_readTerm_63 lX8_59 rfl (Nat.le_of_ble_eq_true rfl) (Nat.le_of_ble_eq_true rfl) rfl ?_
          refine c_add11d Se44.2.2 (fun e63 se63 Ce63 => ?_)
          have Se63 := CD_add Se44 se63 Ce63
          show ab_X (d + 6) mX8_readTerm 66 [(3, .int (iI (sg T z q))), (0, .ref 10), (1, .int (iI (D : Int))), (2, .int (iI (i : Int)))] [] e63 _
          refine z_iinc (k := 3) (v := (i : Int) + 1) (ls' := [(2, .int (iI ((i : Int) + 1))), (3, .int (iI (sg T z q))), (0, .ref 10), (1, .int (iI (D : Int)))]) dX8_readTerm_66 rfl rfl (by decide) rfl ?_
          refine ab_goto (tgt := 7) dX8_readTerm_69 (by decide) ?_
          refine ab_sub (ls' := [(0, .ref 10), (1, .int (iI (D : Int))), (2, .int (iI ((i : Int) + 1)))]) (ks := [2, 3, 0]) rfl ?_
          exact dl_readTerm (i := i + 1) (by omega) hz Se63 (fun h' S' => K0 h' _ (by rw [← hR, show 160 - i = (159 - i) + 1 by omega]; exact seqL_2 (by rw [hop]; decide) j44 n44) n44 S')
    · skip
      refine ab_iload_n (k := 0) dX8_readTerm_28 rfl rfl ?_
      refine z_bipush dX8_readTerm_29 (by decide) ?_
      refine z_icmp_eq (tgt := 35) dX8_readTerm_31 (by decide) (by omega) (by decide) (fun c31 => ?_) (fun c31 => ?_)
      · skip
        have zz := sg_in (T := T) (z := z) (p := q) (by omega)
        refine ab_aload_n (k := 1) dX8_readTerm_35 rfl rfl ?_
        refine z_getP (b := 1) dX8_readTerm_36 fX8_18 rfl rfl rfl ?_
        refine ab_callV (As := []) (rest := []) dX8_readTerm_39 lX8_38 rfl (Nat.le_of_ble_eq_true rfl) (Nat.le_of_ble_eq_true rfl) rfl ?_
        refine c_tstep ht Sl18.2.1 (by omega) (fun l39 sl39 tl39 => ?_)
        have Sl39 := CL_t Sl18 sl39 tl39 (by omega)
        show ab_X (d + 6) mX8_readTerm 42 [(3, .int (iI (sg T z q))), (0, .ref 10), (1, .int (iI (D : Int))), (2, .int (iI (i : Int)))] [] l39 _
        refine ab_aload_n (k := 1) dX8_readTerm_42 rfl rfl ?_
        refine ab_iload_n (k := 2) dX8_readTerm_43 rfl rfl ?_
        refine ab_callV (As := [.int (iI (D : Int))]) (rest := []) dX8_readTerm_44 lX8_83 rfl (Nat.le_of_ble_eq_true rfl) (Nat.le_of_ble_eq_true rfl) rfl ?_
        refine hN h0 _ _ _ _ Sl39 (fun l44 p44 c44 j44 b44 Sl44 => ?_) (fun e44 w44 j44 n44 Se44 => ?_)
        · skip
          have r44 := Sl44.2.1.2.2.2.2
          show ab_X (d + 6) mX8_readTerm 47 [(3, .int (iI (sg T z q))), (0, .ref 10), (1, .int (iI (D : Int))), (2, .int (iI (i : Int)))] [] l44 _
          refine ab_aload_n (k := 1) dX8_readTerm_47 rfl rfl ?_
          refine z_getP (b := 11) dX8_readTerm_48 fX8_12 rfl rfl rfl ?_
          refine ab_iload_n (k := 0) dX8_readTerm_51 rfl rfl ?_
          refine z_bipush dX8_readTerm_52 (by decide) ?_
          refine z_icmp_ne (tgt := 61) dX8_readTerm_54 (by decide) (by omega) (by decide) (fun c54 => ?_) (fun c54 => ?_)
          · skip
            have hop : opo 42 47 4 5 (sg T z q) = 5 := by unfold opo; rw [if_neg (by omega), if_pos (by omega)]
            refine z_iconst dX8_readTerm_61 ?_
            refine z_iconst dX8_readTerm_62 ?_
            refine ab_callV (As := [.int (iI 5), .int (iI 0)]) (rest := []) dX8_readTerm_63 lX8_59 rfl (Nat.le_of_ble_eq_true rfl) (Nat.le_of_ble_eq_true rfl) rfl ?_
            have q63 : (((c ++ c1) ++ c44)).length + 1 ≤ p44 := by (try simp only [List.length_append, List.length_cons, List.length_nil]); omega
            have r63 := Sl44.2.1.2.2.2.2
            refine c_add11 Sl44.2.2.2 (by omega) (by decide) (by decide) (fun l63 sl63 Cl63 => ?_)
            have Sl63 := CL_add Sl44 q63 sl63 Cl63
            show ab_X (d + 6) mX8_readTerm 66 [(3, .int (iI (sg T z q))), (0, .ref 10), (1, .int (iI (D : Int))), (2, .int (iI (i : Int)))] [] l63 _
            refine z_iinc (k := 3) (v := (i : Int) + 1) (ls' := [(2, .int (iI ((i : Int) + 1))), (3, .int (iI (sg T z q))), (0, .ref 10), (1, .int (iI (D : Int)))]) dX8_readTerm_66 rfl rfl (by decide) rfl ?_
            refine ab_goto (tgt := 7) dX8_readTerm_69 (by decide) ?_
            refine ab_sub (ls' := [(0, .ref 10), (1, .int (iI (D : Int))), (2, .int (iI ((i : Int) + 1)))]) (ks := [2, 3, 0]) rfl ?_
            refine ih _ (by omega) p44 (i + 1) (c1 ++ (c44 ++ [(5, 0)])) _ rfl ?_ (by omega) (by omega) ?_ ?_
            · simp only [List.append_assoc] at Sl63; exact Sl63
            · simp only [List.length_append, List.length_cons, List.length_nil]; omega
            · rw [← hR, show 160 - i = (160 - (i + 1)) + 1 by omega]
              exact (seqL_1 hop (by decide) j44).symm
          · skip
            have hop : opo 42 47 4 5 (sg T z q) = 4 := by unfold opo; rw [if_pos (by omega)]
            refine z_iconst dX8_readTerm_57 ?_
            refine ab_goto (tgt := 62) dX8_readTerm_58 (by decide) ?_
            refine z_iconst dX8_readTerm_62 ?_
            refine ab_callV (As := [.int (iI 4), .int (iI 0)]) (rest := []) dX8_readTerm_63 lX8_59 rfl (Nat.le_of_ble_eq_true rfl) (Nat.le_of_ble_eq_true rfl) rfl ?_
            have q63 : (((c ++ c1) ++ c44)).length + 1 ≤ p44 := by (try simp only [List.length_append, List.length_cons, List.length_nil]); omega
            have r63 := Sl44.2.1.2.2.2.2
            refine c_add11 Sl44.2.2.2 (by omega) (by decide) (by decide) (fun l63 sl63 Cl63 => ?_)
            have Sl63 := CL_add Sl44 q63 sl63 Cl63
            show ab_X (d + 6) mX8_readTerm 66 [(3, .int (iI (sg T z q))), (0, .ref 10), (1, .int (iI (D : Int))), (2, .int (iI (i : Int)))] [] l63 _
            refine z_iinc (k := 3) (v := (i : Int) + 1) (ls' := [(2, .int (iI ((i : Int) + 1))), (3, .int (iI (sg T z q))), (0, .ref 10), (1, .int (iI (D : Int)))]) dX8_readTerm_66 rfl rfl (by decide) rfl ?_
            refine ab_goto (tgt := 7) dX8_readTerm_69 (by decide) ?_
            refine ab_sub (ls' := [(0, .ref 10), (1, .int (iI (D : Int))), (2, .int (iI ((i : Int) + 1)))]) (ks := [2, 3, 0]) rfl ?_
            refine ih _ (by omega) p44 (i + 1) (c1 ++ (c44 ++ [(4, 0)])) _ rfl ?_ (by omega) (by omega) ?_ ?_
            · simp only [List.append_assoc] at Sl63; exact Sl63
            · simp only [List.length_append, List.length_cons, List.length_nil]; omega
            · rw [← hR, show 160 - i = (160 - (i + 1)) + 1 by omega]
              exact (seqL_1 hop (by decide) j44).symm
        · skip
          show ab_X (d + 6) mX8_readTerm 47 [(3, .int (iI (sg T z q))), (0, .ref 10), (1, .int (iI (D : Int))), (2, .int (iI (i : Int)))] [] e44 _
          refine ab_aload_n (k := 1) dX8_readTerm_47 rfl rfl ?_
          refine z_getP (b := 11) dX8_readTerm_48 fX8_12 rfl rfl rfl ?_
          refine ab_iload_n (k := 0) dX8_readTerm_51 rfl rfl ?_
          refine z_bipush dX8_readTerm_52 (by decide) ?_
          refine z_icmp_ne (tgt := 61) dX8_readTerm_54 (by decide) (by omega) (by decide) (fun c54 => ?_) (fun c54 => ?_)
          · skip
            have hop : opo 42 47 4 5 (sg T z q) = 5 := by unfold opo; rw [if_neg (by omega), if_pos (by omega)]
            refine z_iconst dX8_readTerm_61 ?_
            refine z_iconst dX8_readTerm_62 ?_
            refine ab_callV (As := [.int (iI 5), .int (iI 0)]) (rest := []) dX8_readTerm_63 lX8_59 rfl (Nat.le_of_ble_eq_true rfl) (Nat.le_of_ble_eq_true rfl) rfl ?_
            refine c_add11d Se44.2.2 (fun e63 se63 Ce63 => ?_)
            have Se63 := CD_add Se44 se63 Ce63
            show ab_X (d + 6) mX8_readTerm 66 [(3, .int (iI (sg T z q))), (0, .ref 10), (1, .int (iI (D : Int))), (2, .int (iI (i : Int)))] [] e63 _
            refine z_iinc (k := 3) (v := (i : Int) + 1) (ls' := [(2, .int (iI ((i : Int) + 1))), (3, .int (iI (sg T z q))), (0, .ref 10), (1, .int (iI (D : Int)))]) dX8_readTerm_66 rfl rfl (by decide) rfl ?_
            refine ab_goto (tgt := 7) dX8_readTerm_69 (by decide) ?_
            refine ab_sub (ls' := [(0, .ref 10), (1, .int (iI (D : Int))), (2, .int (iI ((i : Int) + 1)))]) (ks := [2, 3, 0]) rfl ?_
            exact dl_readTerm (i := i + 1) (by omega) hz Se63 (fun h' S' => K0 h' _ (by rw [← hR, show 160 - i = (159 - i) + 1 by omega]; exact seqL_2 (by rw [hop]; decide) j44 n44) n44 S')
          · skip
            have hop : opo 42 47 4 5 (sg T z q) = 4 := by unfold opo; rw [if_pos (by omega)]
            refine z_iconst dX8_readTerm_57 ?_
            refine ab_goto (tgt := 62) dX8_readTerm_58 (by decide) ?_
            refine z_iconst dX8_readTerm_62 ?_
            refine ab_callV (As := [.int (iI 4), .int (iI 0)]) (rest := []) dX8_readTerm_63 lX8_59 rfl (Nat.le_of_ble_eq_true rfl) (Nat.le_of_ble_eq_true rfl) rfl ?_
            refine c_add11d Se44.2.2 (fun e63 se63 Ce63 => ?_)
            have Se63 := CD_add Se44 se63 Ce63
            show ab_X (d + 6) mX8_readTerm 66 [(3, .int (iI (sg T z q))), (0, .ref 10), (1, .int (iI (D : Int))), (2, .int (iI (i : Int)))] [] e63 _
            refine z_iinc (k := 3) (v := (i : Int) + 1) (ls' := [(2, .int (iI ((i : Int) + 1))), (3, .int (iI (sg T z q))), (0, .ref 10), (1, .int (iI (D : Int)))]) dX8_readTerm_66 rfl rfl (by decide) rfl ?_
            refine ab_goto (tgt := 7) dX8_readTerm_69 (by decide) ?_
            refine ab_sub (ls' := [(0, .ref 10), (1, .int (iI (D : Int))), (2, .int (iI ((i : Int) + 1)))]) (ks := [2, 3, 0]) rfl ?_
            exact dl_readTerm (i := i + 1) (by omega) hz Se63 (fun h' S' => K0 h' _ (by rw [← hR, show 160 - i = (159 - i) + 1 by omega]; exact seqL_2 (by rw [hop]; decide) j44 n44) n44 S')
      · skip
        refine z_vret dX8_readTerm_34 rfl ?_
        have e3 := seqL_n (T := T) (z := z) (next := nx) (a := 42) (b := 47) (oa := 4) (ob := 5) (p := q) (c := c1) (by unfold opo; rw [if_neg (by omega), if_neg (by omega)]) (160 - i)
        rw [hR] at e3
        exact K1 _ _ _ e3 (by omega) Sl18
theorem c_readTerm0 {d : Nat} {h : ab_H} {Q : ab_Q} {T : Nat → Int} {z : Nat} {h0 : ab_H} {p D : Nat} {c : List (Int × Int)} {fs nx : Nat → pR}  (ht : tx T z) (hD : D ≤ 6) (hF : rdC T z mX8_readAtom [.ref 10, .int (iI (D : Int))] fs (d + 5)) (hFD : rdD z mX8_readAtom [.ref 10, .int (iI (D : Int))] (d + 5)) (hN : rdC T z mX8_readAtom [.ref 10, .int (iI (D : Int))] nx (d + 5)) (hND : rdD z mX8_readAtom [.ref 10, .int (iI (D : Int))] (d + 5)) (Sh : CL T z h0 h p c) (K1 : ∀ h' p' c', seqF T z fs nx 42 47 4 5 p = (-1, p', c') → p + c'.length ≤ p' → CL T z h0 h' p' (c ++ c') → Q none h') (K0 : ∀ h' w, (seqF T z fs nx 42 47 4 5 p).1 = w → ¬ w = -1 → CD z h0 h' w → Q none h') : ab_X (d + 6) mX8_readTerm 0 (lv_args 0 [.ref 10, .int (iI (D : Int))]) [] h Q := by
  show ab_X (d + 6) mX8_readTerm 0 [(0, .ref 10), (1, .int (iI (D : Int)))] [] h Q
  have hz := ht.1
  have hpz := Sh.2.1.2.2.2.2
  have hcl := Sh.2.2.1
  refine ab_aload_n (k := 0) dX8_readTerm_0 rfl rfl ?_
  refine ab_iload_n (k := 1) dX8_readTerm_1 rfl rfl ?_
  refine ab_callV (As := [.int (iI (D : Int))]) (rest := []) dX8_readTerm_2 lX8_83 rfl (Nat.le_of_ble_eq_true rfl) (Nat.le_of_ble_eq_true rfl) rfl ?_
  refine hF h0 _ _ _ _ Sh (fun l2 p2 c2 j2 b2 Sl2 => ?_) (fun e2 w2 j2 n2 Se2 => ?_)
  · skip
    have r2 := Sl2.2.1.2.2.2.2
    show ab_X (d + 6) mX8_readTerm 5 [(0, .ref 10), (1, .int (iI (D : Int)))] [] l2 _
    refine z_iconst dX8_readTerm_5 ?_
    refine ab_istore_n (ls' := [(2, .int (iI 0)), (0, .ref 10), (1, .int (iI (D : Int)))]) dX8_readTerm_6 rfl (by decide) rfl ?_
    refine ab_sub (ls' := [(0, .ref 10), (1, .int (iI (D : Int))), (2, .int (iI 0))]) (ks := [1, 2, 0]) rfl ?_
    exact lp_readTerm ht hD hN (R := seqF T z fs nx 42 47 4 5 p) (p0 := p) (c := c) hND K1 K0 _ p2 0 c2 _ rfl Sl2 (by omega) (by omega) (by omega) (seq_1 j2).symm
  · skip
    show ab_X (d + 6) mX8_readTerm 5 [(0, .ref 10), (1, .int (iI (D : Int)))] [] e2 _
    refine z_iconst dX8_readTerm_5 ?_
    refine ab_istore_n (ls' := [(2, .int (iI 0)), (0, .ref 10), (1, .int (iI (D : Int)))]) dX8_readTerm_6 rfl (by decide) rfl ?_
    refine ab_sub (ls' := [(0, .ref 10), (1, .int (iI (D : Int))), (2, .int (iI 0))]) (ks := [1, 2, 0]) rfl ?_
    exact dl_readTerm (i := 0) (by omega) hz Se2 (fun h' S' => K0 h' _ (seq_2 j2 n2) n2 S')
theorem c_readTermD {d : Nat} {h : ab_H} {Q : ab_Q} {z : Nat} {h0 : ab_H} {w : Int} {D : Nat}  (hFD : rdD z mX8_readAtom [.ref 10, .int (iI (D : Int))] (d + 5)) (hz : z ≤ 160) (Sh : CD z h0 h w) (K : ∀ h', CD z h0 h' w → Q none h') : ab_X (d + 6) mX8_readTerm 0 (lv_args 0 [.ref 10, .int (iI (D : Int))]) [] h Q := by
  show ab_X (d + 6) mX8_readTerm 0 [(0, .ref 10), (1, .int (iI (D : Int)))] [] h Q
  refine ab_aload_n (k := 0) dX8_readTerm_0 rfl rfl ?_
  refine ab_iload_n (k := 1) dX8_readTerm_1 rfl rfl ?_
  refine ab_callV (As := [.int (iI (D : Int))]) (rest := []) dX8_readTerm_2 lX8_83 rfl (Nat.le_of_ble_eq_true rfl) (Nat.le_of_ble_eq_true rfl) rfl ?_
  refine hFD h0 _ _ _ Sh (fun e2 Se2 => ?_)
  show ab_X (d + 6) mX8_readTerm 5 [(0, .ref 10), (1, .int (iI (D : Int)))] [] e2 _
  refine z_iconst dX8_readTerm_5 ?_
  refine ab_istore_n (ls' := [(2, .int (iI 0)), (0, .ref 10), (1, .int (iI (D : Int)))]) dX8_readTerm_6 rfl (by decide) rfl ?_
  refine ab_sub (ls' := [(0, .ref 10), (1, .int (iI (D : Int))), (2, .int (iI 0))]) (ks := [1, 2, 0]) rfl ?_
  exact dl_readTerm (i := 0) (by omega) hz Se2 K
theorem dl_readSum {d : Nat} {h : ab_H} {Q : ab_Q} {z : Nat} {h0 : ab_H} {w : Int} {D i : Nat}  (hi : i ≤ 160) (hz : z ≤ 160) (Sh : CD z h0 h w) (K : ∀ h', CD z h0 h' w → Q none h') : ab_X (d + 7) mX8_readSum 7 [(0, .ref 10), (1, .int (iI (D : Int))), (2, .int (iI (i : Int)))] [] h Q := by
  refine ab_iload_n (k := 2) dX8_readSum_7 rfl rfl ?_
  refine z_sipush dX8_readSum_8 (by decide) ?_
  refine z_icmp_ge (tgt := 72) dX8_readSum_11 (by decide) (by omega) (by decide) (fun c11 => ?_) (fun c11 => ?_)
  · skip
    refine z_vret dX8_readSum_72 rfl ?_
    exact K _ Sh
  · skip
    refine ab_aload_n (k := 0) dX8_readSum_14 rfl rfl ?_
    refine z_getP (b := 1) dX8_readSum_15 fX8_18 rfl rfl rfl ?_
    refine ab_callV (As := []) (rest := []) dX8_readSum_18 lX8_34 rfl (Nat.le_of_ble_eq_true rfl) (Nat.le_of_ble_eq_true rfl) rfl ?_
    refine c_dlook hz Sh.2.1 (fun e18 se18 te18 => ?_)
    have Se18 := CD_d Sh se18 te18
    show ab_X (d + 7) mX8_readSum 21 [(0, .ref 10), (1, .int (iI (D : Int))), (2, .int (iI (i : Int)))] [.int (iI (-1))] e18 _
    refine ab_istore_n (ls' := [(3, .int (iI (-1))), (0, .ref 10), (1, .int (iI (D : Int))), (2, .int (iI (i : Int)))]) dX8_readSum_21 rfl (by decide) rfl ?_
    refine ab_iload_n (k := 0) dX8_readSum_22 rfl rfl ?_
    refine z_bipush dX8_readSum_23 (by decide) ?_
    refine z_icmp_eq (tgt := 35) dX8_readSum_25 (by decide) (by decide) (by decide) (fun c25 => absurd c25 (by decide)) (fun _ => ?_)
    refine ab_iload_n (k := 0) dX8_readSum_28 rfl rfl ?_
    refine z_bipush dX8_readSum_29 (by decide) ?_
    refine z_icmp_eq (tgt := 35) dX8_readSum_31 (by decide) (by decide) (by decide) (fun c31 => absurd c31 (by decide)) (fun _ => ?_)
    refine z_vret dX8_readSum_34 rfl ?_
    exact K _ Se18
theorem lp_readSum {d : Nat} {Q : ab_Q} {T : Nat → Int} {z : Nat} {h0 : ab_H} {p0 D : Nat} {c : List (Int × Int)} {nx : Nat → pR} {R : pR}  (ht : tx T z) (hD : D ≤ 6) (hN : rdC T z mX8_readTerm [.ref 10, .int (iI (D : Int))] nx (d + 6)) (hND : rdD z mX8_readTerm [.ref 10, .int (iI (D : Int))] (d + 6)) (K1 : ∀ h' p' c', R = (-1, p', c') → p0 + c'.length ≤ p' → CL T z h0 h' p' (c ++ c') → Q none h') (K0 : ∀ h' w, R.1 = w → ¬ w = -1 → CD z h0 h' w → Q none h') : ∀ (nn : Nat) (q : Nat) (i : Nat) (c1 : List (Int × Int)) (h : ab_H), 160 - i = nn → (CL T z h0 h q (c ++ c1)) → (i ≤ 160) → (i ≤ q) → (p0 + c1.length ≤ q) → (seqL T z nx 43 45 2 3 (160 - i) q c1 = R) → ab_X (d + 7) mX8_readSum 7 [(0, .ref 10), (1, .int (iI (D : Int))), (2, .int (iI (i : Int)))] [] h Q := by
  intro nn
  induction nn using Nat.strongRecOn with
  | ind nn ih =>
  intro q i c1 h hnn Sh hi hiq hl hR
  have hz := ht.1
  have hpz := Sh.2.1.2.2.2.2
  have hcl := Sh.2.2.1
  rw [List.length_append] at hcl
  refine ab_iload_n (k := 2) dX8_readSum_7 rfl rfl ?_
  refine z_sipush dX8_readSum_8 (by decide) ?_
  refine z_icmp_ge (tgt := 72) dX8_readSum_11 (by decide) (by omega) (by decide) (fun c11 => ?_) (fun c11 => ?_)
  · skip
    refine z_vret dX8_readSum_72 rfl ?_
    have e1 := lk_n (T := T) (z := z) (p := q) (by omega)
    have e2 : sg T z q = -1 := by unfold sg; rw [e1, if_neg (by omega)]
    have e3 := seqL_n (T := T) (z := z) (next := nx) (a := 43) (b := 45) (oa := 2) (ob := 3) (p := q) (c := c1) (by rw [e2]; rfl) (160 - i)
    rw [hR, e1] at e3
    exact K1 _ _ _ e3 (by omega) Sh
  · skip
    refine ab_aload_n (k := 0) dX8_readSum_14 rfl rfl ?_
    refine z_getP (b := 1) dX8_readSum_15 fX8_18 rfl rfl rfl ?_
    refine ab_callV (As := []) (rest := []) dX8_readSum_18 lX8_34 rfl (Nat.le_of_ble_eq_true rfl) (Nat.le_of_ble_eq_true rfl) rfl ?_
    refine c_tlook ht Sh.2.1 (fun l18 sl18 tl18 => ?_)
    have k18 := lk_ge T z q
    have Sl18 := CL_t Sh sl18 tl18 (by omega)
    have y18 := sg_b ht q
    show ab_X (d + 7) mX8_readSum 21 [(0, .ref 10), (1, .int (iI (D : Int))), (2, .int (iI (i : Int)))] [.int (iI (sg T z q))] l18 _
    refine ab_istore_n (ls' := [(3, .int (iI (sg T z q))), (0, .ref 10), (1, .int (iI (D : Int))), (2, .int (iI (i : Int)))]) dX8_readSum_21 rfl (by decide) rfl ?_
    refine ab_iload_n (k := 0) dX8_readSum_22 rfl rfl ?_
    refine z_bipush dX8_readSum_23 (by decide) ?_
    refine z_icmp_eq (tgt := 35) dX8_readSum_25 (by decide) (by omega) (by decide) (fun c25 => ?_) (fun c25 => ?_)
    · skip
      have zz := sg_in (T := T) (z := z) (p := q) (by omega)
      refine ab_aload_n (k := 1) dX8_readSum_35 rfl rfl ?_
      refine z_getP (b := 1) dX8_readSum_36 fX8_18 rfl rfl rfl ?_
      refine ab_callV (As := []) (rest := []) dX8_readSum_39 lX8_38 rfl (Nat.le_of_ble_eq_true rfl) (Nat.le_of_ble_eq_true rfl) rfl ?_
      refine c_tstep ht Sl18.2.1 (by omega) (fun l39 sl39 tl39 => ?_)
      have Sl39 := CL_t Sl18 sl39 tl39 (by omega)
      show ab_X (d + 7) mX8_readSum 42 [(3, .int (iI (sg T z q))), (0, .ref 10), (1, .int (iI (D : Int))), (2, .int (iI (i : Int)))] [] l39 _
      refine ab_aload_n (k := 1) dX8_readSum_42 rfl rfl ?_
      refine ab_iload_n (k := 2) dX8_readSum_43 rfl rfl ?_
      refine ab_callV (As := [.int (iI (D : Int))]) (rest := []) dX8_readSum_44 lX8_80 rfl (Nat.le_of_ble_eq_true rfl) (Nat.le_of_ble_eq_true rfl) rfl ?_
      refine hN h0 _ _ _ _ Sl39 (fun l44 p44 c44 j44 b44 Sl44 => ?_) (fun e44 w44 j44 n44 Se44 => ?_)
      · skip
        have r44 := Sl44.2.1.2.2.2.2
        show ab_X (d + 7) mX8_readSum 47 [(3, .int (iI (sg T z q))), (0, .ref 10), (1, .int (iI (D : Int))), (2, .int (iI (i : Int)))] [] l44 _
        refine ab_aload_n (k := 1) dX8_readSum_47 rfl rfl ?_
        refine z_getP (b := 11) dX8_readSum_48 fX8_12 rfl rfl rfl ?_
        refine ab_iload_n (k := 0) dX8_readSum_51 rfl rfl ?_
        refine z_bipush dX8_readSum_52 (by decide) ?_
        refine z_icmp_ne (tgt := 61) dX8_readSum_54 (by decide) (by omega) (by decide) (fun c54 => ?_) (fun c54 => ?_)
        · skip
          have hop : opo 43 45 2 3 (sg T z q) = 3 := by unfold opo; rw [if_neg (by omega), if_pos (by omega)]
          refine z_iconst dX8_readSum_61 ?_
          refine z_iconst dX8_readSum_62 ?_
          refine ab_callV (As := [.int (iI 3), .int (iI 0)]) (rest := []) dX8_readSum_63 lX8_59 rfl (Nat.le_of_ble_eq_true rfl) (Nat.le_of_ble_eq_true rfl) rfl ?_
          have q63 : (((c ++ c1) ++ c44)).length + 1 ≤ p44 := by (try simp only [List.length_append, List.length_cons, List.length_nil]); omega
          have r63 := Sl44.2.1.2.2.2.2
          refine c_add11 Sl44.2.2.2 (by omega) (by decide) (by decide) (fun l63 sl63 Cl63 => ?_)
          have Sl63 := CL_add Sl44 q63 sl63 Cl63
          show ab_X (d + 7) mX8_readSum 66 [(3, .int (iI (sg T z q))), (0, .ref 10), (1, .int (iI (D : Int))), (2, .int (iI (i : Int)))] [] l63 _
          refine z_iinc (k := 3) (v := (i : Int) + 1) (ls' := [(2, .int (iI ((i : Int) + 1))), (3, .int (iI (sg T z q))), (0, .ref 10), (1, .int (iI (D : Int)))]) dX8_readSum_66 rfl rfl (by decide) rfl ?_
          refine ab_goto (tgt := 7) dX8_readSum_69 (by decide) ?_
          refine ab_sub (ls' := [(0, .ref 10), (1, .int (iI (D : Int))), (2, .int (iI ((i : Int) + 1)))]) (ks := [2, 3, 0]) rfl ?_
          refine ih _ (by omega) p44 (i + 1) (c1 ++ (c44 ++ [(3, 0)])) _ rfl ?_ (by omega) (by omega) ?_ ?_
          · simp only [List.append_assoc] at Sl63; exact Sl63
          · simp only [List.length_append, List.length_cons, List.length_nil]; omega
          · rw [← hR, show 160 - i = (160 - (i + 1)) + 1 by omega]
            exact (seqL_1 hop (by decide) j44).symm
        · skip
          have hop : opo 43 45 2 3 (sg T z q) = 2 := by unfold opo; rw [if_pos (by omega)]
          refine z_iconst dX8_readSum_57 ?_
          refine ab_goto (tgt := 62) dX8_readSum_58 (by decide) ?_
          refine z_iconst dX8_readSum_62 ?_
          refine ab_callV (As := [.int (iI 2), .int (iI 0)]) (rest := []) dX8_readSum_63 lX8_59 rfl (Nat.le_of_ble_eq_true rfl) (Nat.le_of_ble_eq_true rfl) rfl ?_
          have q63 : (((c ++ c1) ++ c44)).length + 1 ≤ p44 := by (try simp only [List.length_append, List.length_cons, List.length_nil]); omega
          have r63 := Sl44.2.1.2.2.2.2
          refine c_add11 Sl44.2.2.2 (by omega) (by decide) (by decide) (fun l63 sl63 Cl63 => ?_)
          have Sl63 := CL_add Sl44 q63 sl63 Cl63
          show ab_X (d + 7) mX8_readSum 66 [(3, .int (iI (sg T z q))), (0, .ref 10), (1, .int (iI (D : Int))), (2, .int (iI (i : Int)))] [] l63 _
          refine z_iinc (k := 3) (v := (i : Int) + 1) (ls' := [(2, .int (iI ((i : Int) + 1))), (3, .int (iI (sg T z q))), (0, .ref 10), (1, .int (iI (D : Int)))]) dX8_readSum_66 rfl rfl (by decide) rfl ?_
          refine ab_goto (tgt := 7) dX8_readSum_69 (by decide) ?_
          refine ab_sub (ls' := [(0, .ref 10), (1, .int (iI (D : Int))), (2, .int (iI ((i : Int) + 1)))]) (ks := [2, 3, 0]) rfl ?_
          refine ih _ (by omega) p44 (i + 1) (c1 ++ (c44 ++ [(2, 0)])) _ rfl ?_ (by omega) (by omega) ?_ ?_
          · simp only [List.append_assoc] at Sl63; exact Sl63
          · simp only [List.length_append, List.length_cons, List.length_nil]; omega
          · rw [← hR, show 160 - i = (160 - (i + 1)) + 1 by omega]
            exact (seqL_1 hop (by decide) j44).symm
      · skip
        show ab_X (d + 7) mX8_readSum 47 [(3, .int (iI (sg T z q))), (0, .ref 10), (1, .int (iI (D : Int))), (2, .int (iI (i : Int)))] [] e44 _
        refine ab_aload_n (k := 1) dX8_readSum_47 rfl rfl ?_
        refine z_getP (b := 11) dX8_readSum_48 fX8_12 rfl rfl rfl ?_
        refine ab_iload_n (k := 0) dX8_readSum_51 rfl rfl ?_
        refine z_bipush dX8_readSum_52 (by decide) ?_
        refine z_icmp_ne (tgt := 61) dX8_readSum_54 (by decide) (by omega) (by decide) (fun c54 => ?_) (fun c54 => ?_)
        · skip
          have hop : opo 43 45 2 3 (sg T z q) = 3 := by unfold opo; rw [if_neg (by omega), if_pos (by omega)]
          refine z_iconst dX8_readSum_61 ?_
          refine z_iconst dX8_readSum_62 ?_
          refine ab_callV (As := [.int (iI 3), .int (iI 0)]) (rest := []) dX8_readSum_63 lX8_59 rfl (Nat.le_of_ble_eq_true rfl) (Nat.le_of_ble_eq_true rfl) rfl ?_
          refine c_add11d Se44.2.2 (fun e63 se63 Ce63 => ?_)
          have Se63 := CD_add Se44 se63 Ce63
          show ab_X (d + 7) mX8_readSum 66 [(3, .int (iI (sg T z q))), (0, .ref 10), (1, .int (iI (D : Int))), (2, .int (iI (i : Int)))] [] e63 _
          refine z_iinc (k := 3) (v := (i : Int) + 1) (ls' := [(2, .int (iI ((i : Int) + 1))), (3, .int (iI (sg T z q))), (0, .ref 10), (1, .int (iI (D : Int)))]) dX8_readSum_66 rfl rfl (by decide) rfl ?_
          refine ab_goto (tgt := 7) dX8_readSum_69 (by decide) ?_
          refine ab_sub (ls' := [(0, .ref 10), (1, .int (iI (D : Int))), (2, .int (iI ((i : Int) + 1)))]) (ks := [2, 3, 0]) rfl ?_
          exact dl_readSum (i := i + 1) (by omega) hz Se63 (fun h' S' => K0 h' _ (by rw [← hR, show 160 - i = (159 - i) + 1 by omega]; exact seqL_2 (by rw [hop]; decide) j44 n44) n44 S')
        · skip
          have hop : opo 43 45 2 3 (sg T z q) = 2 := by unfold opo; rw [if_pos (by omega)]
          refine z_iconst dX8_readSum_57 ?_
          refine ab_goto (tgt := 62) dX8_readSum_58 (by decide) ?_
          refine z_iconst dX8_readSum_62 ?_
          refine ab_callV (As := [.int (iI 2), .int (iI 0)]) (rest := []) dX8_readSum_63 lX8_59 rfl (Nat.le_of_ble_eq_true rfl) (Nat.le_of_ble_eq_true rfl) rfl ?_
          refine c_add11d Se44.2.2 (fun e63 se63 Ce63 => ?_)
          have Se63 := CD_add Se44 se63 Ce63
          show ab_X (d + 7) mX8_readSum 66 [(3, .int (iI (sg T z q))), (0, .ref 10), (1, .int (iI (D : Int))), (2, .int (iI (i : Int)))] [] e63 _
          refine z_iinc (k := 3) (v := (i : Int) + 1) (ls' := [(2, .int (iI ((i : Int) + 1))), (3, .int (iI (sg T z q))), (0, .ref 10), (1, .int (iI (D : Int)))]) dX8_readSum_66 rfl rfl (by decide) rfl ?_
          refine ab_goto (tgt := 7) dX8_readSum_69 (by decide) ?_
          refine ab_sub (ls' := [(0, .ref 10), (1, .int (iI (D : Int))), (2, .int (iI ((i : Int) + 1)))]) (ks := [2, 3, 0]) rfl ?_
          exact dl_readSum (i := i + 1) (by omega) hz Se63 (fun h' S' => K0 h' _ (by rw [← hR, show 160 - i = (159 - i) + 1 by omega]; exact seqL_2 (by rw [hop]; decide) j44 n44) n44 S')
    · skip
      refine ab_iload_n (k := 0) dX8_readSum_28 rfl rfl ?_
      refine z_bipush dX8_readSum_29 (by decide) ?_
      refine z_icmp_eq (tgt := 35) dX8_readSum_31 (by decide) (by omega) (by decide) (fun c31 => ?_) (fun c31 => ?_)
      · skip
        have zz := sg_in (T := T) (z := z) (p := q) (by omega)
        refine ab_aload_n (k := 1) dX8_readSum_35 rfl rfl ?_
        refine z_getP (b := 1) dX8_readSum_36 fX8_18 rfl rfl rfl ?_
        refine ab_callV (As := []) (rest := []) dX8_readSum_39 lX8_38 rfl (Nat.le_of_ble_eq_true rfl) (Nat.le_of_ble_eq_true rfl) rfl ?_
        refine c_tstep ht Sl18.2.1 (by omega) (fun l39 sl39 tl39 => ?_)
        have Sl39 := CL_t Sl18 sl39 tl39 (by omega)
        show ab_X (d + 7) mX8_readSum 42 [(3, .int (iI (sg T z q))), (0, .ref 10), (1, .int (iI (D : Int))), (2, .int (iI (i : Int)))] [] l39 _
        refine ab_aload_n (k := 1) dX8_readSum_42 rfl rfl ?_
        refine ab_iload_n (k := 2) dX8_readSum_43 rfl rfl ?_
        refine ab_callV (As := [.int (iI (D : Int))]) (rest := []) dX8_readSum_44 lX8_80 rfl (Nat.le_of_ble_eq_true rfl) (Nat.le_of_ble_eq_true rfl) rfl ?_
        refine hN h0 _ _ _ _ Sl39 (fun l44 p44 c44 j44 b44 Sl44 => ?_) (fun e44 w44 j44 n44 Se44 => ?_)
        · skip
          have r44 := Sl44.2.1.2.2.2.2
          show ab_X (d + 7) mX8_readSum 47 [(3, .int (iI (sg T z q))), (0, .ref 10), (1, .int (iI (D : Int))), (2, .int (iI (i : Int)))] [] l44 _
          refine ab_aload_n (k := 1) dX8_readSum_47 rfl rfl ?_
          refine z_getP (b := 11) dX8_readSum_48 fX8_12 rfl rfl rfl ?_
          refine ab_iload_n (k := 0) dX8_readSum_51 rfl rfl ?_
          refine z_bipush dX8_readSum_52 (by decide) ?_
          refine z_icmp_ne (tgt := 61) dX8_readSum_54 (by decide) (by omega) (by decide) (fun c54 => ?_) (fun c54 => ?_)
          · skip
            have hop : opo 43 45 2 3 (sg T z q) = 3 := by unfold opo; rw [if_neg (by omega), if_pos (by omega)]
            refine z_iconst dX8_readSum_61 ?_
            refine z_iconst dX8_readSum_62 ?_
            refine ab_callV (As := [.int (iI 3), .int (iI 0)]) (rest := []) dX8_readSum_63 lX8_59 rfl (Nat.le_of_ble_eq_true rfl) (Nat.le_of_ble_eq_true rfl) rfl ?_
            have q63 : (((c ++ c1) ++ c44)).length + 1 ≤ p44 := by (try simp only [List.length_append, List.length_cons, List.length_nil]); omega
            have r63 := Sl44.2.1.2.2.2.2
            refine c_add11 Sl44.2.2.2 (by omega) (by decide) (by decide) (fun l63 sl63 Cl63 => ?_)
            have Sl63 := CL_add Sl44 q63 sl63 Cl63
            show ab_X (d + 7) mX8_readSum 66 [(3, .int (iI (sg T z q))), (0, .ref 10), (1, .int (iI (D : Int))), (2, .int (iI (i : Int)))] [] l63 _
            refine z_iinc (k := 3) (v := (i : Int) + 1) (ls' := [(2, .int (iI ((i : Int) + 1))), (3, .int (iI (sg T z q))), (0, .ref 10), (1, .int (iI (D : Int)))]) dX8_readSum_66 rfl rfl (by decide) rfl ?_
            refine ab_goto (tgt := 7) dX8_readSum_69 (by decide) ?_
            refine ab_sub (ls' := [(0, .ref 10), (1, .int (iI (D : Int))), (2, .int (iI ((i : Int) + 1)))]) (ks := [2, 3, 0]) rfl ?_
            refine ih _ (by omega) p44 (i + 1) (c1 ++ (c44 ++ [(3, 0)])) _ rfl ?_ (by omega) (by omega) ?_ ?_
            · simp only [List.append_assoc] at Sl63; exact Sl63
            · simp only [List.length_append, List.length_cons, List.length_nil]; omega
            · rw [← hR, show 160 - i = (160 - (i + 1)) + 1 by omega]
              exact (seqL_1 hop (by decide) j44).symm
          · skip
            have hop : opo 43 45 2 3 (sg T z q) = 2 := by unfold opo; rw [if_pos (by omega)]
            refine z_iconst dX8_readSum_57 ?_
            refine ab_goto (tgt := 62) dX8_readSum_58 (by decide) ?_
            refine z_iconst dX8_readSum_62 ?_
            refine ab_callV (As := [.int (iI 2), .int (iI 0)]) (rest := []) dX8_readSum_63 lX8_59 rfl (Nat.le_of_ble_eq_true rfl) (Nat.le_of_ble_eq_true rfl) rfl ?_
            have q63 : (((c ++ c1) ++ c44)).length + 1 ≤ p44 := by (try simp only [List.length_append, List.length_cons, List.length_nil]); omega
            have r63 := Sl44.2.1.2.2.2.2
            refine c_add11 Sl44.2.2.2 (by omega) (by decide) (by decide) (fun l63 sl63 Cl63 => ?_)
            have Sl63 := CL_add Sl44 q63 sl63 Cl63
            show ab_X (d + 7) mX8_readSum 66 [(3, .int (iI (sg T z q))), (0, .ref 10), (1, .int (iI (D : Int))), (2, .int (iI (i : Int)))] [] l63 _
            refine z_iinc (k := 3) (v := (i : Int) + 1) (ls' := [(2, .int (iI ((i : Int) + 1))), (3, .int (iI (sg T z q))), (0, .ref 10), (1, .int (iI (D : Int)))]) dX8_readSum_66 rfl rfl (by decide) rfl ?_
            refine ab_goto (tgt := 7) dX8_readSum_69 (by decide) ?_
            refine ab_sub (ls' := [(0, .ref 10), (1, .int (iI (D : Int))), (2, .int (iI ((i : Int) + 1)))]) (ks := [2, 3, 0]) rfl ?_
            refine ih _ (by omega) p44 (i + 1) (c1 ++ (c44 ++ [(2, 0)])) _ rfl ?_ (by omega) (by omega) ?_ ?_
            · simp only [List.append_assoc] at Sl63; exact Sl63
            · simp only [List.length_append, List.length_cons, List.length_nil]; omega
            · rw [← hR, show 160 - i = (160 - (i + 1)) + 1 by omega]
              exact (seqL_1 hop (by decide) j44).symm
        · skip
          show ab_X (d + 7) mX8_readSum 47 [(3, .int (iI (sg T z q))), (0, .ref 10), (1, .int (iI (D : Int))), (2, .int (iI (i : Int)))] [] e44 _
          refine ab_aload_n (k := 1) dX8_readSum_47 rfl rfl ?_
          refine z_getP (b := 11) dX8_readSum_48 fX8_12 rfl rfl rfl ?_
          refine ab_iload_n (k := 0) dX8_readSum_51 rfl rfl ?_
          refine z_bipush dX8_readSum_52 (by decide) ?_
          refine z_icmp_ne (tgt := 61) dX8_readSum_54 (by decide) (by omega) (by decide) (fun c54 => ?_) (fun c54 => ?_)
          · skip
            have hop : opo 43 45 2 3 (sg T z q) = 3 := by unfold opo; rw [if_neg (by omega), if_pos (by omega)]
            refine z_iconst dX8_readSum_61 ?_
            refine z_iconst dX8_readSum_62 ?_
            refine ab_callV (As := [.int (iI 3), .int (iI 0)]) (rest := []) dX8_readSum_63 lX8_59 rfl (Nat.le_of_ble_eq_true rfl) (Nat.le_of_ble_eq_true rfl) rfl ?_
            refine c_add11d Se44.2.2 (fun e63 se63 Ce63 => ?_)
            have Se63 := CD_add Se44 se63 Ce63
            show ab_X (d + 7) mX8_readSum 66 [(3, .int (iI (sg T z q))), (0, .ref 10), (1, .int (iI (D : Int))), (2, .int (iI (i : Int)))] [] e63 _
            refine z_iinc (k := 3) (v := (i : Int) + 1) (ls' := [(2, .int (iI ((i : Int) + 1))), (3, .int (iI (sg T z q))), (0, .ref 10), (1, .int (iI (D : Int)))]) dX8_readSum_66 rfl rfl (by decide) rfl ?_
            refine ab_goto (tgt := 7) dX8_readSum_69 (by decide) ?_
            refine ab_sub (ls' := [(0, .ref 10), (1, .int (iI (D : Int))), (2, .int (iI ((i : Int) + 1)))]) (ks := [2, 3, 0]) rfl ?_
            exact dl_readSum (i := i + 1) (by omega) hz Se63 (fun h' S' => K0 h' _ (by rw [← hR, show 160 - i = (159 - i) + 1 by omega]; exact seqL_2 (by rw [hop]; decide) j44 n44) n44 S')
          · skip
            have hop : opo 43 45 2 3 (sg T z q) = 2 := by unfold opo; rw [if_pos (by omega)]
            refine z_iconst dX8_readSum_57 ?_
            refine ab_goto (tgt := 62) dX8_readSum_58 (by decide) ?_
            refine z_iconst dX8_readSum_62 ?_
            refine ab_callV (As := [.int (iI 2), .int (iI 0)]) (rest := []) dX8_readSum_63 lX8_59 rfl (Nat.le_of_ble_eq_true rfl) (Nat.le_of_ble_eq_true rfl) rfl ?_
            refine c_add11d Se44.2.2 (fun e63 se63 Ce63 => ?_)
            have Se63 := CD_add Se44 se63 Ce63
            show ab_X (d + 7) mX8_readSum 66 [(3, .int (iI (sg T z q))), (0, .ref 10), (1, .int (iI (D : Int))), (2, .int (iI (i : Int)))] [] e63 _
            refine z_iinc (k := 3) (v := (i : Int) + 1) (ls' := [(2, .int (iI ((i : Int) + 1))), (3, .int (iI (sg T z q))), (0, .ref 10), (1, .int (iI (D : Int)))]) dX8_readSum_66 rfl rfl (by decide) rfl ?_
            refine ab_goto (tgt := 7) dX8_readSum_69 (by decide) ?_
            refine ab_sub (ls' := [(0, .ref 10), (1, .int (iI (D : Int))), (2, .int (iI ((i : Int) + 1)))]) (ks := [2, 3, 0]) rfl ?_
            exact dl_readSum (i := i + 1) (by omega) hz Se63 (fun h' S' => K0 h' _ (by rw [← hR, show 160 - i = (159 - i) + 1 by omega]; exact seqL_2 (by rw [hop]; decide) j44 n44) n44 S')
      · skip
        refine z_vret dX8_readSum_34 rfl ?_
        have e3 := seqL_n (T := T) (z := z) (next := nx) (a := 43) (b := 45) (oa := 2) (ob := 3) (p := q) (c := c1) (by unfold opo; rw [if_neg (by omega), if_neg (by omega)]) (160 - i)
        rw [hR] at e3
        exact K1 _ _ _ e3 (by omega) Sl18
theorem c_readSum0 {d : Nat} {h : ab_H} {Q : ab_Q} {T : Nat → Int} {z : Nat} {h0 : ab_H} {p D : Nat} {c : List (Int × Int)} {fs nx : Nat → pR}  (ht : tx T z) (hD : D ≤ 6) (hF : rdC T z mX8_readTerm [.ref 10, .int (iI (D : Int))] fs (d + 6)) (hFD : rdD z mX8_readTerm [.ref 10, .int (iI (D : Int))] (d + 6)) (hN : rdC T z mX8_readTerm [.ref 10, .int (iI (D : Int))] nx (d + 6)) (hND : rdD z mX8_readTerm [.ref 10, .int (iI (D : Int))] (d + 6)) (Sh : CL T z h0 h p c) (K1 : ∀ h' p' c', seqF T z fs nx 43 45 2 3 p = (-1, p', c') → p + c'.length ≤ p' → CL T z h0 h' p' (c ++ c') → Q none h') (K0 : ∀ h' w, (seqF T z fs nx 43 45 2 3 p).1 = w → ¬ w = -1 → CD z h0 h' w → Q none h') : ab_X (d + 7) mX8_readSum 0 (lv_args 0 [.ref 10, .int (iI (D : Int))]) [] h Q := by
  show ab_X (d + 7) mX8_readSum 0 [(0, .ref 10), (1, .int (iI (D : Int)))] [] h Q
  have hz := ht.1
  have hpz := Sh.2.1.2.2.2.2
  have hcl := Sh.2.2.1
  refine ab_aload_n (k := 0) dX8_readSum_0 rfl rfl ?_
  refine ab_iload_n (k := 1) dX8_readSum_1 rfl rfl ?_
  refine ab_callV (As := [.int (iI (D : Int))]) (rest := []) dX8_readSum_2 lX8_80 rfl (Nat.le_of_ble_eq_true rfl) (Nat.le_of_ble_eq_true rfl) rfl ?_
  refine hF h0 _ _ _ _ Sh (fun l2 p2 c2 j2 b2 Sl2 => ?_) (fun e2 w2 j2 n2 Se2 => ?_)
  · skip
    have r2 := Sl2.2.1.2.2.2.2
    show ab_X (d + 7) mX8_readSum 5 [(0, .ref 10), (1, .int (iI (D : Int)))] [] l2 _
    refine z_iconst dX8_readSum_5 ?_
    refine ab_istore_n (ls' := [(2, .int (iI 0)), (0, .ref 10), (1, .int (iI (D : Int)))]) dX8_readSum_6 rfl (by decide) rfl ?_
    refine ab_sub (ls' := [(0, .ref 10), (1, .int (iI (D : Int))), (2, .int (iI 0))]) (ks := [1, 2, 0]) rfl ?_
    exact lp_readSum ht hD hN (R := seqF T z fs nx 43 45 2 3 p) (p0 := p) (c := c) hND K1 K0 _ p2 0 c2 _ rfl Sl2 (by omega) (by omega) (by omega) (seq_1 j2).symm
  · skip
    show ab_X (d + 7) mX8_readSum 5 [(0, .ref 10), (1, .int (iI (D : Int)))] [] e2 _
    refine z_iconst dX8_readSum_5 ?_
    refine ab_istore_n (ls' := [(2, .int (iI 0)), (0, .ref 10), (1, .int (iI (D : Int)))]) dX8_readSum_6 rfl (by decide) rfl ?_
    refine ab_sub (ls' := [(0, .ref 10), (1, .int (iI (D : Int))), (2, .int (iI 0))]) (ks := [1, 2, 0]) rfl ?_
    exact dl_readSum (i := 0) (by omega) hz Se2 (fun h' S' => K0 h' _ (seq_2 j2 n2) n2 S')
theorem c_readSumD {d : Nat} {h : ab_H} {Q : ab_Q} {z : Nat} {h0 : ab_H} {w : Int} {D : Nat}  (hFD : rdD z mX8_readTerm [.ref 10, .int (iI (D : Int))] (d + 6)) (hz : z ≤ 160) (Sh : CD z h0 h w) (K : ∀ h', CD z h0 h' w → Q none h') : ab_X (d + 7) mX8_readSum 0 (lv_args 0 [.ref 10, .int (iI (D : Int))]) [] h Q := by
  show ab_X (d + 7) mX8_readSum 0 [(0, .ref 10), (1, .int (iI (D : Int)))] [] h Q
  refine ab_aload_n (k := 0) dX8_readSum_0 rfl rfl ?_
  refine ab_iload_n (k := 1) dX8_readSum_1 rfl rfl ?_
  refine ab_callV (As := [.int (iI (D : Int))]) (rest := []) dX8_readSum_2 lX8_80 rfl (Nat.le_of_ble_eq_true rfl) (Nat.le_of_ble_eq_true rfl) rfl ?_
  refine hFD h0 _ _ _ Sh (fun e2 Se2 => ?_)
  show ab_X (d + 7) mX8_readSum 5 [(0, .ref 10), (1, .int (iI (D : Int)))] [] e2 _
  refine z_iconst dX8_readSum_5 ?_
  refine ab_istore_n (ls' := [(2, .int (iI 0)), (0, .ref 10), (1, .int (iI (D : Int)))]) dX8_readSum_6 rfl (by decide) rfl ?_
  refine ab_sub (ls' := [(0, .ref 10), (1, .int (iI (D : Int))), (2, .int (iI 0))]) (ks := [1, 2, 0]) rfl ?_
  exact dl_readSum (i := 0) (by omega) hz Se2 K
