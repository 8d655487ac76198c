/-! THE CLASS READS A KERB: items -/
theorem c_tnumW {d : Nat} {h : ab_H} {Q : ab_Q} {T : Nat → Int} {z p : Nat} {lo hi : Int} (ht : tx T z) (hlo : 0 ≤ lo ∧ lo ≤ 99) (hhi : 0 ≤ hi ∧ hi ≤ 99) (Sh : TL T z h p) (k1 : ∀ h' q v, kNm T z lo hi p = (-1, q, v) → (p < q ∧ q ≤ z) → (lo ≤ v ∧ v ≤ hi) → sm [1] h h' → TL T z h' q → Q (some (.int (iI v))) h') (k0 : ∀ h' v w, (kNm T z lo hi p).1 = w → ¬ w = -1 → (0 ≤ v ∧ v ≤ 9999) → sm [1] h h' → TD z h' w → Q (some (.int (iI v))) h') : ab_X (d + 3) mX10_numberWithin 0 (lv_args 0 [.ref 1, .int (iI 2), .int (iI lo), .int (iI hi)]) [] h Q := by
  show ab_X (d + 3) mX10_numberWithin 0 [(0, .ref 1), (1, .int (iI 2)), (2, .int (iI lo)), (3, .int (iI hi))] [] h Q
  have hz := ht.1
  have hk := lk_ge T z p
  refine ab_aload_n (k := 0) dX10_numberWithin_0 rfl rfl ?_
  refine ab_iload_n (k := 1) dX10_numberWithin_1 rfl rfl ?_
  refine ab_callV (As := [.int (iI 2)]) (rest := []) dX10_numberWithin_2 lX10_39 rfl (Nat.le_of_ble_eq_true rfl) (Nat.le_of_ble_eq_true rfl) rfl ?_
  refine c_tnumber (m := 2) ht (by omega) Sh (fun l2 q2 v2 j2 b2 vb2 sl2 Sl2 => ?_) (fun e2 v2 w2 j2 vb2 se2 Se2 => ?_)
  · skip
    show ab_X (d + 3) mX10_numberWithin 5 [(0, .ref 1), (1, .int (iI 2)), (2, .int (iI lo)), (3, .int (iI hi))] [.int (iI v2)] l2 _
    refine ab_istore (ls' := [(4, .int (iI v2)), (0, .ref 1), (1, .int (iI 2)), (2, .int (iI lo)), (3, .int (iI hi))]) dX10_numberWithin_5 (by decide) rfl ?_
    refine ab_iload (k := 0) dX10_numberWithin_7 rfl ?_
    refine ab_iload_n (k := 3) dX10_numberWithin_9 rfl rfl ?_
    refine z_icmp_lt (tgt := 19) dX10_numberWithin_10 (by decide) (by omega) (by omega) (fun c10 => ?_) (fun c10 => ?_)
    · skip
      refine ab_aload_n (k := 1) dX10_numberWithin_19 rfl rfl ?_
      refine ab_callV (As := []) (rest := []) dX10_numberWithin_20 lX10_43 rfl (Nat.le_of_ble_eq_true rfl) (Nat.le_of_ble_eq_true rfl) rfl ?_
      refine c_tlast ht Sl2 (by omega) (fun e20 se20 Se20 => ?_)
      show ab_X (d + 3) mX10_numberWithin 23 [(4, .int (iI v2)), (0, .ref 1), (1, .int (iI 2)), (2, .int (iI lo)), (3, .int (iI hi))] [] e20 _
      refine ab_iload (k := 0) dX10_numberWithin_23 rfl ?_
      refine z_iret dX10_numberWithin_25 rfl ?_
      first
      | (have hw1 := Se2.2.2.2
         have hx := j2
         unfold pNum at hx
         by_cases d1 : dg T z (lk T z p)
         · rw [if_pos d1] at hx
           by_cases d2 : dg T z (nmb T z 2 (lk T z p) 0).1
           · rw [if_pos d2] at hx
             exact k0 _ v2 w2 ((kNm_3 d1 d2).trans hx) hw1 (by omega) (se2.trans se20) Se20
           · rw [if_neg d2] at hx
             exact absurd hx (fun q => hw1 q.symm)
         · rw [if_neg d1] at hx
           exact k0 _ v2 w2 ((kNm_4 d1).trans hx) hw1 (by omega) (se2.trans se20) Se20)
      | (have hx := j2
         unfold pNum at hx
         by_cases d1 : dg T z (lk T z p)
         · rw [if_pos d1] at hx
           by_cases d2 : dg T z (nmb T z 2 (lk T z p) 0).1
           · rw [if_pos d2] at hx
             exact absurd (congrArg Prod.fst hx) (bad_ne _)
           · rw [if_neg d2] at hx
             have e1 : (nmb T z 2 (lk T z p) 0).1 = q2 := congrArg (fun x : pR => x.2.1) hx
             have e2 : (nmb T z 2 (lk T z p) 0).2 = v2 := congrArg (fun x : pR => (x.2.2.getD 0 (0, 0)).2) hx
             exact k0 _ v2 _ ((kNm_2 (lo := lo) (hi := hi) d1 d2 (by omega)).trans (by rw [e1])) (by omega) (by omega) (sl2.trans se20) Se20
         · rw [if_neg d1] at hx
           exact absurd (congrArg Prod.fst hx) (bad_ne _))
    · skip
      refine ab_iload (k := 0) dX10_numberWithin_13 rfl ?_
      refine ab_iload_n (k := 4) dX10_numberWithin_15 rfl rfl ?_
      refine z_icmp_le (tgt := 23) dX10_numberWithin_16 (by decide) (by omega) (by omega) (fun c16 => ?_) (fun c16 => ?_)
      · skip
        refine ab_iload (k := 0) dX10_numberWithin_23 rfl ?_
        refine z_iret dX10_numberWithin_25 rfl ?_
        have hx := j2
        unfold pNum at hx
        by_cases d1 : dg T z (lk T z p)
        · rw [if_pos d1] at hx
          by_cases d2 : dg T z (nmb T z 2 (lk T z p) 0).1
          · rw [if_pos d2] at hx
            exact absurd (congrArg Prod.fst hx) (bad_ne _)
          · rw [if_neg d2] at hx
            have e1 : (nmb T z 2 (lk T z p) 0).1 = q2 := congrArg (fun x : pR => x.2.1) hx
            have e2 : (nmb T z 2 (lk T z p) 0).2 = v2 := congrArg (fun x : pR => (x.2.2.getD 0 (0, 0)).2) hx
            refine k1 _ q2 v2 ?_ (by omega) (by omega) sl2 Sl2
            rw [kNm_1 d1 d2 (by omega), e1, e2]
        · rw [if_neg d1] at hx
          exact absurd (congrArg Prod.fst hx) (bad_ne _)
      · skip
        refine ab_aload_n (k := 1) dX10_numberWithin_19 rfl rfl ?_
        refine ab_callV (As := []) (rest := []) dX10_numberWithin_20 lX10_43 rfl (Nat.le_of_ble_eq_true rfl) (Nat.le_of_ble_eq_true rfl) rfl ?_
        refine c_tlast ht Sl2 (by omega) (fun e20 se20 Se20 => ?_)
        show ab_X (d + 3) mX10_numberWithin 23 [(4, .int (iI v2)), (0, .ref 1), (1, .int (iI 2)), (2, .int (iI lo)), (3, .int (iI hi))] [] e20 _
        refine ab_iload (k := 0) dX10_numberWithin_23 rfl ?_
        refine z_iret dX10_numberWithin_25 rfl ?_
        first
        | (have hw1 := Se2.2.2.2
           have hx := j2
           unfold pNum at hx
           by_cases d1 : dg T z (lk T z p)
           · rw [if_pos d1] at hx
             by_cases d2 : dg T z (nmb T z 2 (lk T z p) 0).1
             · rw [if_pos d2] at hx
               exact k0 _ v2 w2 ((kNm_3 d1 d2).trans hx) hw1 (by omega) (se2.trans se20) Se20
             · rw [if_neg d2] at hx
               exact absurd hx (fun q => hw1 q.symm)
           · rw [if_neg d1] at hx
             exact k0 _ v2 w2 ((kNm_4 d1).trans hx) hw1 (by omega) (se2.trans se20) Se20)
        | (have hx := j2
           unfold pNum at hx
           by_cases d1 : dg T z (lk T z p)
           · rw [if_pos d1] at hx
             by_cases d2 : dg T z (nmb T z 2 (lk T z p) 0).1
             · rw [if_pos d2] at hx
               exact absurd (congrArg Prod.fst hx) (bad_ne _)
             · rw [if_neg d2] at hx
               have e1 : (nmb T z 2 (lk T z p) 0).1 = q2 := congrArg (fun x : pR => x.2.1) hx
               have e2 : (nmb T z 2 (lk T z p) 0).2 = v2 := congrArg (fun x : pR => (x.2.2.getD 0 (0, 0)).2) hx
               exact k0 _ v2 _ ((kNm_2 (lo := lo) (hi := hi) d1 d2 (by omega)).trans (by rw [e1])) (by omega) (by omega) (sl2.trans se20) Se20
           · rw [if_neg d1] at hx
             exact absurd (congrArg Prod.fst hx) (bad_ne _))
  · skip
    have hat2 := Se2.2.1
    show ab_X (d + 3) mX10_numberWithin 5 [(0, .ref 1), (1, .int (iI 2)), (2, .int (iI lo)), (3, .int (iI hi))] [.int (iI v2)] e2 _
    refine ab_istore (ls' := [(4, .int (iI v2)), (0, .ref 1), (1, .int (iI 2)), (2, .int (iI lo)), (3, .int (iI hi))]) dX10_numberWithin_5 (by decide) rfl ?_
    refine ab_iload (k := 0) dX10_numberWithin_7 rfl ?_
    refine ab_iload_n (k := 3) dX10_numberWithin_9 rfl rfl ?_
    refine z_icmp_lt (tgt := 19) dX10_numberWithin_10 (by decide) (by omega) (by omega) (fun c10 => ?_) (fun c10 => ?_)
    · skip
      refine ab_aload_n (k := 1) dX10_numberWithin_19 rfl rfl ?_
      refine ab_callV (As := []) (rest := []) dX10_numberWithin_20 lX10_43 rfl (Nat.le_of_ble_eq_true rfl) (Nat.le_of_ble_eq_true rfl) rfl ?_
      refine c_dlast hz Se2 (fun e20 se20 Se20 => ?_)
      show ab_X (d + 3) mX10_numberWithin 23 [(4, .int (iI v2)), (0, .ref 1), (1, .int (iI 2)), (2, .int (iI lo)), (3, .int (iI hi))] [] e20 _
      refine ab_iload (k := 0) dX10_numberWithin_23 rfl ?_
      refine z_iret dX10_numberWithin_25 rfl ?_
      first
      | (have hw1 := Se2.2.2.2
         have hx := j2
         unfold pNum at hx
         by_cases d1 : dg T z (lk T z p)
         · rw [if_pos d1] at hx
           by_cases d2 : dg T z (nmb T z 2 (lk T z p) 0).1
           · rw [if_pos d2] at hx
             exact k0 _ v2 w2 ((kNm_3 d1 d2).trans hx) hw1 (by omega) (se2.trans se20) Se20
           · rw [if_neg d2] at hx
             exact absurd hx (fun q => hw1 q.symm)
         · rw [if_neg d1] at hx
           exact k0 _ v2 w2 ((kNm_4 d1).trans hx) hw1 (by omega) (se2.trans se20) Se20)
      | (have hx := j2
         unfold pNum at hx
         by_cases d1 : dg T z (lk T z p)
         · rw [if_pos d1] at hx
           by_cases d2 : dg T z (nmb T z 2 (lk T z p) 0).1
           · rw [if_pos d2] at hx
             exact absurd (congrArg Prod.fst hx) (bad_ne _)
           · rw [if_neg d2] at hx
             have e1 : (nmb T z 2 (lk T z p) 0).1 = q2 := congrArg (fun x : pR => x.2.1) hx
             have e2 : (nmb T z 2 (lk T z p) 0).2 = v2 := congrArg (fun x : pR => (x.2.2.getD 0 (0, 0)).2) hx
             exact k0 _ v2 _ ((kNm_2 (lo := lo) (hi := hi) d1 d2 (by omega)).trans (by rw [e1])) (by omega) (by omega) (sl2.trans se20) Se20
         · rw [if_neg d1] at hx
           exact absurd (congrArg Prod.fst hx) (bad_ne _))
    · skip
      refine ab_iload (k := 0) dX10_numberWithin_13 rfl ?_
      refine ab_iload_n (k := 4) dX10_numberWithin_15 rfl rfl ?_
      refine z_icmp_le (tgt := 23) dX10_numberWithin_16 (by decide) (by omega) (by omega) (fun c16 => ?_) (fun c16 => ?_)
      · skip
        refine ab_iload (k := 0) dX10_numberWithin_23 rfl ?_
        refine z_iret dX10_numberWithin_25 rfl ?_
        have hw1 := Se2.2.2.2
        have hx := j2
        unfold pNum at hx
        by_cases d1 : dg T z (lk T z p)
        · rw [if_pos d1] at hx
          by_cases d2 : dg T z (nmb T z 2 (lk T z p) 0).1
          · rw [if_pos d2] at hx
            exact k0 _ v2 w2 ((kNm_3 d1 d2).trans hx) hw1 (by omega) se2 Se2
          · rw [if_neg d2] at hx
            exact absurd hx (fun q => hw1 q.symm)
        · rw [if_neg d1] at hx
          exact k0 _ v2 w2 ((kNm_4 d1).trans hx) hw1 (by omega) se2 Se2
      · skip
        refine ab_aload_n (k := 1) dX10_numberWithin_19 rfl rfl ?_
        refine ab_callV (As := []) (rest := []) dX10_numberWithin_20 lX10_43 rfl (Nat.le_of_ble_eq_true rfl) (Nat.le_of_ble_eq_true rfl) rfl ?_
        refine c_dlast hz Se2 (fun e20 se20 Se20 => ?_)
        show ab_X (d + 3) mX10_numberWithin 23 [(4, .int (iI v2)), (0, .ref 1), (1, .int (iI 2)), (2, .int (iI lo)), (3, .int (iI hi))] [] e20 _
        refine ab_iload (k := 0) dX10_numberWithin_23 rfl ?_
        refine z_iret dX10_numberWithin_25 rfl ?_
        first
        | (have hw1 := Se2.2.2.2
           have hx := j2
           unfold pNum at hx
           by_cases d1 : dg T z (lk T z p)
           · rw [if_pos d1] at hx
             by_cases d2 : dg T z (nmb T z 2 (lk T z p) 0).1
             · rw [if_pos d2] at hx
               exact k0 _ v2 w2 ((kNm_3 d1 d2).trans hx) hw1 (by omega) (se2.trans se20) Se20
             · rw [if_neg d2] at hx
               exact absurd hx (fun q => hw1 q.symm)
           · rw [if_neg d1] at hx
             exact k0 _ v2 w2 ((kNm_4 d1).trans hx) hw1 (by omega) (se2.trans se20) Se20)
        | (have hx := j2
           unfold pNum at hx
           by_cases d1 : dg T z (lk T z p)
           · rw [if_pos d1] at hx
             by_cases d2 : dg T z (nmb T z 2 (lk T z p) 0).1
             · rw [if_pos d2] at hx
               exact absurd (congrArg Prod.fst hx) (bad_ne _)
             · rw [if_neg d2] at hx
               have e1 : (nmb T z 2 (lk T z p) 0).1 = q2 := congrArg (fun x : pR => x.2.1) hx
               have e2 : (nmb T z 2 (lk T z p) 0).2 = v2 := congrArg (fun x : pR => (x.2.2.getD 0 (0, 0)).2) hx
               exact k0 _ v2 _ ((kNm_2 (lo := lo) (hi := hi) d1 d2 (by omega)).trans (by rw [e1])) (by omega) (by omega) (sl2.trans se20) Se20
           · rw [if_neg d1] at hx
             exact absurd (congrArg Prod.fst hx) (bad_ne _))
def VH (j : Nat) (h : ab_H) (v : V3) : Prop := ∀ k, k < kn j → zv h 8 k = g3 v k
def TH (j : Nat) (h : ab_H) (tl : Nat → Bool) : Prop := ∀ k, k < kn j → zv h 9 k = if tl k = true then 1 else 0
theorem kn3 (j : Nat) : kn j ≤ 3 ∧ 2 ≤ kn j := by unfold kn; split <;> omega
theorem VH_s {j k : Nat} {h : ab_H} {v : V3} {x : Int} (V : VH j h v) (hk : k < kn j) (hx : inR x) : VH j (zp h 8 k x) (s3 v k x) := fun i hi => by
  have := kn3 j
  rw [g3_s3 (by omega) (by omega)]
  by_cases e : i = k
  · subst e; rw [zv_zp_s hx, if_pos rfl]
  · rw [zv_zp_ne (by omega), if_neg e]; exact V i hi
theorem TH_s {j k : Nat} {h : ab_H} {tl : Nat → Bool} (V : TH j h tl) : TH j (zp h 9 k 1) (fun i => decide (i = k) || tl i) := fun i hi => by
  by_cases e : i = k
  · subst e; rw [zv_zp_s (by decide), if_pos (by simp)]
  · rw [zv_zp_ne (by omega), V i hi]
    have e2 : (decide (i = k) || tl i) = tl i := by rw [decide_eq_false e]; rfl
    simp only [e2]
theorem VH_m {j : Nat} {h h' : ab_H} {v : V3} {l : List Nat} (V : VH j h v) (s : sm l h h') (hl : 8 ∉ l) : VH j h' v := fun k hk => (s.1 8 k hl).trans (V k hk)
theorem TH_m {j : Nat} {h h' : ab_H} {tl : Nat → Bool} {l : List Nat} (V : TH j h tl) (s : sm l h h') (hl : 9 ∉ l) : TH j h' tl := fun k hk => (s.1 9 k hl).trans (V k hk)
theorem sm189 {h h' : ab_H} (s : sm [1] h h') : sm [1, 8, 9] h h' := s.mono (fun x hx => by rw [List.mem_singleton.mp hx]; decide)
theorem sc_0_0 {k : Nat} (h : k < 3) : (ab_sc 1).getD (iI (k : Int)).toNatClampNeg 0 = iI (kl 0 k) := (show ∀ k : Nat, k < 3 → (ab_sc 1).getD (iI (k : Int)).toNatClampNeg 0 = iI (kl 0 k) by decide) k h
theorem sc_0_1 {k : Nat} (h : k < 3) : (ab_sc 2).getD (iI (k : Int)).toNatClampNeg 0 = iI (km 0 k) := (show ∀ k : Nat, k < 3 → (ab_sc 2).getD (iI (k : Int)).toNatClampNeg 0 = iI (km 0 k) by decide) k h
theorem dl_items0 {d : Nat} {h : ab_H} {Q : ab_Q} {z : Nat} {w : Int} {i : Nat}  (hz : z ≤ 160) (hi : i ≤ 3) (Seh : TD z h w) (K : ∀ h', sm [1] h h' → TD z h' w → Q none h') : ab_X (d + 5) mX3_readItems 53 [(0, .ref 3), (1, .ref (2000 + 0)), (2, .ref (1000 + 1)), (3, .ref (1000 + 2)), (5, .int (iI (i : Int)))] [] h Q := by
  refine ab_iload (k := 4) dX3_readItems_53 rfl ?_
  refine ab_aload_n (k := 1) dX3_readItems_55 rfl rfl ?_
  refine ab_callT (As := []) (rest := [.int (iI (i : Int))]) dX3_readItems_56 lX3_122 (by decide) (Nat.le_of_ble_eq_true rfl) (Nat.le_of_ble_eq_true rfl) rfl ?_
  refine c_slen (j := 0) (by decide) ?_
  show ab_X (d + 5) mX3_readItems 59 [(0, .ref 3), (1, .ref (2000 + 0)), (2, .ref (1000 + 1)), (3, .ref (1000 + 2)), (5, .int (iI (i : Int)))] [.int (iI 3), .int (iI (i : Int))] h _
  refine z_icmp_ge (tgt := 136) dX3_readItems_59 (by decide) (by omega) (by decide) (fun c59 => ?_) (fun c59 => ?_)
  · skip
    refine z_vret dX3_readItems_136 rfl ?_
    exact K _ sm.refl Seh
  · skip
    refine ab_aload_n (k := 1) dX3_readItems_62 rfl rfl ?_
    refine ab_aload_n (k := 0) dX3_readItems_63 rfl rfl ?_
    refine z_getP (b := 1) dX3_readItems_64 fX3_26 rfl rfl rfl ?_
    refine ab_callV (As := []) (rest := [.ref (2000 + 0)]) dX3_readItems_67 lX3_56 rfl (Nat.le_of_ble_eq_true rfl) (Nat.le_of_ble_eq_true rfl) rfl ?_
    refine c_dlook hz Seh (fun e67 se67 Se67 => ?_)
    show ab_X (d + 5) mX3_readItems 70 [(0, .ref 3), (1, .ref (2000 + 0)), (2, .ref (1000 + 1)), (3, .ref (1000 + 2)), (5, .int (iI (i : Int)))] [.int (iI (-1)), .ref (2000 + 0)] e67 _
    refine ab_callS (As := [.ref (2000 + 0), .int (iI (-1))]) (rest := []) dX3_readItems_70 lX3_127 (Nat.le_of_ble_eq_true rfl) (Nat.le_of_ble_eq_true rfl) rfl ?_
    refine c_itemBy0 (by decide) ?_
    show ab_X (d + 5) mX3_readItems 73 [(0, .ref 3), (1, .ref (2000 + 0)), (2, .ref (1000 + 1)), (3, .ref (1000 + 2)), (5, .int (iI (i : Int)))] [.int (iI (-1))] e67 _
    refine ab_istore (ls' := [(6, .int (iI (-1))), (0, .ref 3), (1, .ref (2000 + 0)), (2, .ref (1000 + 1)), (3, .ref (1000 + 2)), (5, .int (iI (i : Int)))]) dX3_readItems_73 (by decide) rfl ?_
    refine ab_iload (k := 0) dX3_readItems_75 rfl ?_
    refine z_iconst dX3_readItems_77 ?_
    refine z_icmp_eq (tgt := 91) dX3_readItems_78 (by decide) (by decide) (by decide) (fun _ => ?_) (fun c78 => absurd c78 (by decide))
    refine z_vret dX3_readItems_91 rfl ?_
    exact K _ se67 Se67
theorem lp_items0 {d : Nat} {Q : ab_Q} {h0 : ab_H} {T : Nat → Int} {z p0 : Nat} {R : kR}  (ht : tx T z) (K1 : ∀ h' p' q v, R = (-1, q, v) → lk T z p' = q → p0 ≤ p' → vOK 0 v → sm [1, 8, 9] h0 h' → TL T z h' p' → VH 0 h' v → Q none h') (K0 : ∀ h' w, R.1 = w → ¬ w = -1 → sm [1, 8, 9] h0 h' → TD z h' w → (0 ≤ zv h' 8 0 ∧ zv h' 8 0 ≤ 9999) → (0 ≤ zv h' 8 1 ∧ zv h' 8 1 ≤ 9999) → Q none h') : ∀ (nn : Nat) (p : Nat) (i : Nat) (tl : Nat → Bool) (v : V3) (h : ab_H), 3 - i = nn → (i ≤ 3) → (sm [1, 8, 9] h0 h) → (p0 ≤ p) → (TL T z h p) → (TH 0 h tl) → (VH 0 h v) → (vOK 0 v) → (kit T z 0 (3 - i) tl v p = R) → ab_X (d + 5) mX3_readItems 53 [(0, .ref 3), (1, .ref (2000 + 0)), (2, .ref (1000 + 1)), (3, .ref (1000 + 2)), (5, .int (iI (i : Int)))] [] h Q := by
  intro nn
  induction nn using Nat.strongRecOn with
  | ind nn ih =>
  intro p i tl v h hnn hi hs hp0 Sh U V hv hR
  have hz := ht.1
  have hpz := Sh.2.2.2.2
  refine ab_iload (k := 4) dX3_readItems_53 rfl ?_
  refine ab_aload_n (k := 1) dX3_readItems_55 rfl rfl ?_
  refine ab_callT (As := []) (rest := [.int (iI (i : Int))]) dX3_readItems_56 lX3_122 (by decide) (Nat.le_of_ble_eq_true rfl) (Nat.le_of_ble_eq_true rfl) rfl ?_
  refine c_slen (j := 0) (by decide) ?_
  show ab_X (d + 5) mX3_readItems 59 [(0, .ref 3), (1, .ref (2000 + 0)), (2, .ref (1000 + 1)), (3, .ref (1000 + 2)), (5, .int (iI (i : Int)))] [.int (iI 3), .int (iI (i : Int))] h _
  refine z_icmp_ge (tgt := 136) dX3_readItems_59 (by decide) (by omega) (by decide) (fun c59 => ?_) (fun c59 => ?_)
  · skip
    refine z_vret dX3_readItems_136 rfl ?_
    have e : 3 - i = 0 := by omega
    rw [e, kit_0] at hR
    exact K1 _ _ _ _ hR.symm rfl hp0 hv hs Sh V
  · skip
    refine ab_aload_n (k := 1) dX3_readItems_62 rfl rfl ?_
    refine ab_aload_n (k := 0) dX3_readItems_63 rfl rfl ?_
    refine z_getP (b := 1) dX3_readItems_64 fX3_26 rfl rfl rfl ?_
    refine ab_callV (As := []) (rest := [.ref (2000 + 0)]) dX3_readItems_67 lX3_56 rfl (Nat.le_of_ble_eq_true rfl) (Nat.le_of_ble_eq_true rfl) rfl ?_
    refine c_tlook ht Sh (fun l67 sl67 Sl67 => ?_)
    have y67 := sg_b ht p
    show ab_X (d + 5) mX3_readItems 70 [(0, .ref 3), (1, .ref (2000 + 0)), (2, .ref (1000 + 1)), (3, .ref (1000 + 2)), (5, .int (iI (i : Int)))] [.int (iI (sg T z p)), .ref (2000 + 0)] l67 _
    refine ab_callS (As := [.ref (2000 + 0), .int (iI (sg T z p))]) (rest := []) dX3_readItems_70 lX3_127 (Nat.le_of_ble_eq_true rfl) (Nat.le_of_ble_eq_true rfl) rfl ?_
    refine c_itemBy0 (by omega) ?_
    refine (Classical.em (pof 0 (sg T z p) = -1)).elim (fun hk => ?_) (fun hk => ?_)
    · skip
      rw [hk]
      show ab_X (d + 5) mX3_readItems 73 [(0, .ref 3), (1, .ref (2000 + 0)), (2, .ref (1000 + 1)), (3, .ref (1000 + 2)), (5, .int (iI (i : Int)))] [.int (iI (-1))] l67 _
      refine ab_istore (ls' := [(6, .int (iI (-1))), (0, .ref 3), (1, .ref (2000 + 0)), (2, .ref (1000 + 1)), (3, .ref (1000 + 2)), (5, .int (iI (i : Int)))]) dX3_readItems_73 (by decide) rfl ?_
      refine ab_iload (k := 0) dX3_readItems_75 rfl ?_
      refine z_iconst dX3_readItems_77 ?_
      refine z_icmp_eq (tgt := 91) dX3_readItems_78 (by decide) (by decide) (by decide) (fun _ => ?_) (fun c78 => absurd c78 (by decide))
      refine z_vret dX3_readItems_91 rfl ?_
      first
      | (rw [kit_n hk] at hR; exact K1 _ _ _ _ hR.symm (lk_lk T z p) (by have := lk_ge T z p; omega) hv (hs.trans (sm189 sl67)) Sl67 (VH_m V sl67 (by decide)))
      | (have ht1 : tl k = true := by
           have := U k hkn
           by_cases e : tl k = true
           · exact e
           · rw [if_neg e] at this; omega
         rw [kit_t hk1 ht1] at hR; exact K1 _ _ _ _ hR.symm (lk_lk T z p) (by have := lk_ge T z p; omega) hv (hs.trans (sm189 sl67)) Sl67 (VH_m V sl67 (by decide)))
    · skip
      obtain ⟨k, hk1, hk2, hk3, hk4⟩ := pof_i (by decide) hk
      rw [hk1]
      have hkn : k < 3 := hk2
      have hkb := kl_b 0 k
      have hkm := km_b 0 k
      have zin := sg_in (T := T) (z := z) (p := p) hk4
      show ab_X (d + 5) mX3_readItems 73 [(0, .ref 3), (1, .ref (2000 + 0)), (2, .ref (1000 + 1)), (3, .ref (1000 + 2)), (5, .int (iI (i : Int)))] [.int (iI (k : Int))] l67 _
      refine ab_istore (ls' := [(6, .int (iI (k : Int))), (0, .ref 3), (1, .ref (2000 + 0)), (2, .ref (1000 + 1)), (3, .ref (1000 + 2)), (5, .int (iI (i : Int)))]) dX3_readItems_73 (by decide) rfl ?_
      refine ab_iload (k := 0) dX3_readItems_75 rfl ?_
      refine z_iconst dX3_readItems_77 ?_
      refine z_icmp_eq (tgt := 91) dX3_readItems_78 (by decide) (by omega) (by decide) (fun c78 => ?_) (fun c78 => ?_)
      · skip
        refine z_vret dX3_readItems_91 rfl ?_
        first
        | (rw [kit_n hk] at hR; exact K1 _ _ _ _ hR.symm (lk_lk T z p) (by have := lk_ge T z p; omega) hv (hs.trans (sm189 sl67)) Sl67 (VH_m V sl67 (by decide)))
        | (have ht1 : tl k = true := by
             have := U k hkn
             by_cases e : tl k = true
             · exact e
             · rw [if_neg e] at this; omega
           rw [kit_t hk1 ht1] at hR; exact K1 _ _ _ _ hR.symm (lk_lk T z p) (by have := lk_ge T z p; omega) hv (hs.trans (sm189 sl67)) Sl67 (VH_m V sl67 (by decide)))
      · skip
        refine ab_aload_n (k := 1) dX3_readItems_81 rfl rfl ?_
        refine z_getP (b := 9) dX3_readItems_82 fX3_22 rfl rfl rfl ?_
        have hUk := U k hkn
        have hUb : zv h 9 k = 0 ∨ zv h 9 k = 1 := by rw [hUk]; split <;> omega
        refine ab_iload (k := 0) dX3_readItems_85 rfl ?_
        refine z_bald dX3_readItems_87 (Or.inr rfl) (by omega) (by omega) ?_
        simp only [Int.toNat_natCast]
        refine z_is (y := zv h 9 k) (sl67.1 9 k (by decide)) ?_
        refine z_if_eq (tgt := 92) dX3_readItems_88 (by decide) (by omega) (fun c88 => ?_) (fun c88 => ?_)
        · skip
          refine ab_aload_n (k := 1) dX3_readItems_92 rfl rfl ?_
          refine z_getP (b := 1) dX3_readItems_93 fX3_26 rfl rfl rfl ?_
          refine ab_callV (As := []) (rest := []) dX3_readItems_96 lX3_60 rfl (Nat.le_of_ble_eq_true rfl) (Nat.le_of_ble_eq_true rfl) rfl ?_
          refine c_tstep ht Sl67 (by omega) (fun l96 sl96 Sl96 => ?_)
          show ab_X (d + 5) mX3_readItems 99 [(6, .int (iI (k : Int))), (0, .ref 3), (1, .ref (2000 + 0)), (2, .ref (1000 + 1)), (3, .ref (1000 + 2)), (5, .int (iI (i : Int)))] [] l96 _
          refine ab_aload_n (k := 1) dX3_readItems_99 rfl rfl ?_
          refine z_getP (b := 9) dX3_readItems_100 fX3_22 rfl rfl rfl ?_
          refine ab_iload (k := 0) dX3_readItems_103 rfl ?_
          refine z_iconst dX3_readItems_105 ?_
          refine z_zast dX3_readItems_106 rfl (by omega) (by omega) (Or.inr rfl) ?_
          simp only [Int.toNat_natCast]
          obtain ⟨l106, el106⟩ : ∃ z : ab_H, z = zp l96 9 k 1 := ⟨_, rfl⟩
          rw [← el106]
          have Sl106 : TL T z l106 (lk T z p + 1) := by rw [el106]; exact TL_sm Sl96 (sm_zp (l := [9]) (by decide)) (by decide) (by decide)
          refine ab_aload_n (k := 1) dX3_readItems_107 rfl rfl ?_
          refine z_getP (b := 8) dX3_readItems_108 fX3_18 rfl rfl rfl ?_
          refine ab_iload (k := 0) dX3_readItems_111 rfl ?_
          refine ab_aload_n (k := 1) dX3_readItems_113 rfl rfl ?_
          refine z_getP (b := 1) dX3_readItems_114 fX3_26 rfl rfl rfl ?_
          refine z_iconst dX3_readItems_117 ?_
          refine ab_aload_n (k := 3) dX3_readItems_118 rfl rfl ?_
          refine ab_iload (k := 0) dX3_readItems_119 rfl ?_
          refine ab_tald dX3_readItems_121 (by decide) (iI_in (n := 3) (by omega) (by omega) (by decide)) ?_
          rw [sc_0_0 hkn]
          refine ab_aload_n (k := 4) dX3_readItems_122 rfl rfl ?_
          refine ab_iload (k := 0) dX3_readItems_123 rfl ?_
          refine ab_tald dX3_readItems_125 (by decide) (iI_in (n := 3) (by omega) (by omega) (by decide)) ?_
          rw [sc_0_1 hkn]
          refine ab_callV (As := [.int (iI 2), .int (iI (kl 0 k)), .int (iI (km 0 k))]) (rest := [.int (iI (k : Int)), .ref 8]) dX3_readItems_126 lX3_131 rfl (Nat.le_of_ble_eq_true rfl) (Nat.le_of_ble_eq_true rfl) rfl ?_
          refine c_tnumW ht (by omega) (by omega) Sl106 (fun l126 q126 v126 j126 b126 vb126 sl126 Sl126 => ?_) (fun e126 v126 w126 j126 n126 vb126 se126 Se126 => ?_)
          · skip
            show ab_X (d + 5) mX3_readItems 129 [(6, .int (iI (k : Int))), (0, .ref 3), (1, .ref (2000 + 0)), (2, .ref (1000 + 1)), (3, .ref (1000 + 2)), (5, .int (iI (i : Int)))] [.int (iI v126), .int (iI (k : Int)), .ref 8] l126 _
            refine z_iast dX3_readItems_129 rfl (by omega) (by omega) ?_
            simp only [Int.toNat_natCast]
            refine z_iinc (k := 5) (v := (i : Int) + 1) (ls' := [(5, .int (iI ((i : Int) + 1))), (6, .int (iI (k : Int))), (0, .ref 3), (1, .ref (2000 + 0)), (2, .ref (1000 + 1)), (3, .ref (1000 + 2))]) dX3_readItems_130 rfl rfl (by decide) rfl ?_
            refine ab_goto (tgt := 53) dX3_readItems_133 (by decide) ?_
            refine ab_sub (ls' := [(0, .ref 3), (1, .ref (2000 + 0)), (2, .ref (1000 + 1)), (3, .ref (1000 + 2)), (5, .int (iI ((i : Int) + 1)))]) (ks := [2, 3, 4, 5, 0]) rfl ?_
            have hs8 : sm [8] l126 (zp l126 8 k v126) := sm_zp (by decide)
            have hU := TH_s (k := k) (TH_m (TH_m U sl67 (by decide)) sl96 (by decide))
            rw [← el106] at hU
            have hV : VH 0 l126 v := VH_m (by rw [el106]; exact VH_m (VH_m (VH_m V sl67 (by decide)) sl96 (by decide)) (sm_zp (l := [9]) (by decide)) (by decide)) sl126 (by decide)
            refine ih _ (by omega) q126 (i + 1) _ _ _ rfl (by omega) ((((hs.trans (sm189 sl67)).trans (sm189 sl96)).trans (by rw [el106]; exact sm_zp (by decide))).trans ((sm189 sl126).trans (sm_zp (by decide)))) (by have := lk_ge T z p; omega) (TL_sm Sl126 hs8 (by decide) (by decide)) (TH_m (TH_m hU sl126 (by decide)) hs8 (by decide)) (VH_s hV hkn (by omega)) (vOK_s hv hkn vb126) ?_
            rw [← hR, show 3 - i = (3 - (i + 1)) + 1 by omega]
            exact (kit_1 hk1 (fun q => by have := U k hkn; rw [if_pos q] at this; omega) j126).symm
          · skip
            show ab_X (d + 5) mX3_readItems 129 [(6, .int (iI (k : Int))), (0, .ref 3), (1, .ref (2000 + 0)), (2, .ref (1000 + 1)), (3, .ref (1000 + 2)), (5, .int (iI (i : Int)))] [.int (iI v126), .int (iI (k : Int)), .ref 8] e126 _
            refine z_iast dX3_readItems_129 rfl (by omega) (by omega) ?_
            simp only [Int.toNat_natCast]
            refine z_iinc (k := 5) (v := (i : Int) + 1) (ls' := [(5, .int (iI ((i : Int) + 1))), (6, .int (iI (k : Int))), (0, .ref 3), (1, .ref (2000 + 0)), (2, .ref (1000 + 1)), (3, .ref (1000 + 2))]) dX3_readItems_130 rfl rfl (by decide) rfl ?_
            refine ab_goto (tgt := 53) dX3_readItems_133 (by decide) ?_
            refine ab_sub (ls' := [(0, .ref 3), (1, .ref (2000 + 0)), (2, .ref (1000 + 1)), (3, .ref (1000 + 2)), (5, .int (iI ((i : Int) + 1)))]) (ks := [2, 3, 4, 5, 0]) rfl ?_
            have hs8 : sm [8] e126 (zp e126 8 k v126) := sm_zp (by decide)
            have hD := TD_sm Se126 hs8 (by decide)
            have vv : ∀ m, m < 3 → 0 ≤ zv (zp e126 8 k v126) 8 m ∧ zv (zp e126 8 k v126) 8 m ≤ 9999 := fun m hm => by
              by_cases e : m = k
              · subst e; rw [zv_zp_s (by omega)]; exact vb126
              · rw [zv_zp_ne (by omega), se126.1 8 m (by decide), el106, zv_zp_a (by decide), sl96.1 8 m (by decide), sl67.1 8 m (by decide), V m hm]
                have := hv m hm
                have := kl_b 0 m
                have := km_b 0 m
                omega
            refine dl_items0 (i := i + 1) hz (by omega) hD (fun h' s' S' => K0 h' _ (by rw [← hR, show 3 - i = (3 - (i + 1)) + 1 by omega]; exact kit_2 hk1 (fun q => by have := U k hkn; rw [if_pos q] at this; omega) j126 n126) n126 ?_ S' (by rw [s'.1 8 0 (by decide)]; exact vv 0 (by omega)) (by rw [s'.1 8 1 (by decide)]; exact vv 1 (by omega)))
            exact ((((hs.trans (sm189 sl67)).trans (sm189 sl96)).trans (by rw [el106]; exact sm_zp (by decide))).trans (sm189 se126)).trans ((sm_zp (by decide)).trans (sm189 s'))
        · skip
          refine z_vret dX3_readItems_91 rfl ?_
          first
          | (rw [kit_n hk] at hR; exact K1 _ _ _ _ hR.symm (lk_lk T z p) (by have := lk_ge T z p; omega) hv (hs.trans (sm189 sl67)) Sl67 (VH_m V sl67 (by decide)))
          | (have ht1 : tl k = true := by
               have := U k hkn
               by_cases e : tl k = true
               · exact e
               · rw [if_neg e] at this; omega
             rw [kit_t hk1 ht1] at hR; exact K1 _ _ _ _ hR.symm (lk_lk T z p) (by have := lk_ge T z p; omega) hv (hs.trans (sm189 sl67)) Sl67 (VH_m V sl67 (by decide)))
theorem sc_1_0 {k : Nat} (h : k < 2) : (ab_sc 3).getD (iI (k : Int)).toNatClampNeg 0 = iI (kl 1 k) := (show ∀ k : Nat, k < 2 → (ab_sc 3).getD (iI (k : Int)).toNatClampNeg 0 = iI (kl 1 k) by decide) k h
theorem sc_1_1 {k : Nat} (h : k < 2) : (ab_sc 4).getD (iI (k : Int)).toNatClampNeg 0 = iI (km 1 k) := (show ∀ k : Nat, k < 2 → (ab_sc 4).getD (iI (k : Int)).toNatClampNeg 0 = iI (km 1 k) by decide) k h
theorem dl_items1 {d : Nat} {h : ab_H} {Q : ab_Q} {z : Nat} {w : Int} {i : Nat}  (hz : z ≤ 160) (hi : i ≤ 3) (Seh : TD z h w) (K : ∀ h', sm [1] h h' → TD z h' w → Q none h') : ab_X (d + 5) mX3_readItems 53 [(0, .ref 3), (1, .ref (2000 + 1)), (2, .ref (1000 + 3)), (3, .ref (1000 + 4)), (5, .int (iI (i : Int)))] [] h Q := by
  refine ab_iload (k := 4) dX3_readItems_53 rfl ?_
  refine ab_aload_n (k := 1) dX3_readItems_55 rfl rfl ?_
  refine ab_callT (As := []) (rest := [.int (iI (i : Int))]) dX3_readItems_56 lX3_122 (by decide) (Nat.le_of_ble_eq_true rfl) (Nat.le_of_ble_eq_true rfl) rfl ?_
  refine c_slen (j := 1) (by decide) ?_
  show ab_X (d + 5) mX3_readItems 59 [(0, .ref 3), (1, .ref (2000 + 1)), (2, .ref (1000 + 3)), (3, .ref (1000 + 4)), (5, .int (iI (i : Int)))] [.int (iI 2), .int (iI (i : Int))] h _
  refine z_icmp_ge (tgt := 136) dX3_readItems_59 (by decide) (by omega) (by decide) (fun c59 => ?_) (fun c59 => ?_)
  · skip
    refine z_vret dX3_readItems_136 rfl ?_
    exact K _ sm.refl Seh
  · skip
    refine ab_aload_n (k := 1) dX3_readItems_62 rfl rfl ?_
    refine ab_aload_n (k := 0) dX3_readItems_63 rfl rfl ?_
    refine z_getP (b := 1) dX3_readItems_64 fX3_26 rfl rfl rfl ?_
    refine ab_callV (As := []) (rest := [.ref (2000 + 1)]) dX3_readItems_67 lX3_56 rfl (Nat.le_of_ble_eq_true rfl) (Nat.le_of_ble_eq_true rfl) rfl ?_
    refine c_dlook hz Seh (fun e67 se67 Se67 => ?_)
    show ab_X (d + 5) mX3_readItems 70 [(0, .ref 3), (1, .ref (2000 + 1)), (2, .ref (1000 + 3)), (3, .ref (1000 + 4)), (5, .int (iI (i : Int)))] [.int (iI (-1)), .ref (2000 + 1)] e67 _
    refine ab_callS (As := [.ref (2000 + 1), .int (iI (-1))]) (rest := []) dX3_readItems_70 lX3_127 (Nat.le_of_ble_eq_true rfl) (Nat.le_of_ble_eq_true rfl) rfl ?_
    refine c_itemBy1 (by decide) ?_
    show ab_X (d + 5) mX3_readItems 73 [(0, .ref 3), (1, .ref (2000 + 1)), (2, .ref (1000 + 3)), (3, .ref (1000 + 4)), (5, .int (iI (i : Int)))] [.int (iI (-1))] e67 _
    refine ab_istore (ls' := [(6, .int (iI (-1))), (0, .ref 3), (1, .ref (2000 + 1)), (2, .ref (1000 + 3)), (3, .ref (1000 + 4)), (5, .int (iI (i : Int)))]) dX3_readItems_73 (by decide) rfl ?_
    refine ab_iload (k := 0) dX3_readItems_75 rfl ?_
    refine z_iconst dX3_readItems_77 ?_
    refine z_icmp_eq (tgt := 91) dX3_readItems_78 (by decide) (by decide) (by decide) (fun _ => ?_) (fun c78 => absurd c78 (by decide))
    refine z_vret dX3_readItems_91 rfl ?_
    exact K _ se67 Se67
theorem lp_items1 {d : Nat} {Q : ab_Q} {h0 : ab_H} {T : Nat → Int} {z p0 : Nat} {R : kR}  (ht : tx T z) (K1 : ∀ h' p' q v, R = (-1, q, v) → lk T z p' = q → p0 ≤ p' → vOK 1 v → sm [1, 8, 9] h0 h' → TL T z h' p' → VH 1 h' v → Q none h') (K0 : ∀ h' w, R.1 = w → ¬ w = -1 → sm [1, 8, 9] h0 h' → TD z h' w → (0 ≤ zv h' 8 0 ∧ zv h' 8 0 ≤ 9999) → (0 ≤ zv h' 8 1 ∧ zv h' 8 1 ≤ 9999) → Q none h') : ∀ (nn : Nat) (p : Nat) (i : Nat) (tl : Nat → Bool) (v : V3) (h : ab_H), 2 - i = nn → (i ≤ 2) → (sm [1, 8, 9] h0 h) → (p0 ≤ p) → (TL T z h p) → (TH 1 h tl) → (VH 1 h v) → (vOK 1 v) → (kit T z 1 (2 - i) tl v p = R) → ab_X (d + 5) mX3_readItems 53 [(0, .ref 3), (1, .ref (2000 + 1)), (2, .ref (1000 + 3)), (3, .ref (1000 + 4)), (5, .int (iI (i : Int)))] [] h Q := by
  intro nn
  induction nn using Nat.strongRecOn with
  | ind nn ih =>
  intro p i tl v h hnn hi hs hp0 Sh U V hv hR
  have hz := ht.1
  have hpz := Sh.2.2.2.2
  refine ab_iload (k := 4) dX3_readItems_53 rfl ?_
  refine ab_aload_n (k := 1) dX3_readItems_55 rfl rfl ?_
  refine ab_callT (As := []) (rest := [.int (iI (i : Int))]) dX3_readItems_56 lX3_122 (by decide) (Nat.le_of_ble_eq_true rfl) (Nat.le_of_ble_eq_true rfl) rfl ?_
  refine c_slen (j := 1) (by decide) ?_
  show ab_X (d + 5) mX3_readItems 59 [(0, .ref 3), (1, .ref (2000 + 1)), (2, .ref (1000 + 3)), (3, .ref (1000 + 4)), (5, .int (iI (i : Int)))] [.int (iI 2), .int (iI (i : Int))] h _
  refine z_icmp_ge (tgt := 136) dX3_readItems_59 (by decide) (by omega) (by decide) (fun c59 => ?_) (fun c59 => ?_)
  · skip
    refine z_vret dX3_readItems_136 rfl ?_
    have e : 2 - i = 0 := by omega
    rw [e, kit_0] at hR
    exact K1 _ _ _ _ hR.symm rfl hp0 hv hs Sh V
  · skip
    refine ab_aload_n (k := 1) dX3_readItems_62 rfl rfl ?_
    refine ab_aload_n (k := 0) dX3_readItems_63 rfl rfl ?_
    refine z_getP (b := 1) dX3_readItems_64 fX3_26 rfl rfl rfl ?_
    refine ab_callV (As := []) (rest := [.ref (2000 + 1)]) dX3_readItems_67 lX3_56 rfl (Nat.le_of_ble_eq_true rfl) (Nat.le_of_ble_eq_true rfl) rfl ?_
    refine c_tlook ht Sh (fun l67 sl67 Sl67 => ?_)
    have y67 := sg_b ht p
    show ab_X (d + 5) mX3_readItems 70 [(0, .ref 3), (1, .ref (2000 + 1)), (2, .ref (1000 + 3)), (3, .ref (1000 + 4)), (5, .int (iI (i : Int)))] [.int (iI (sg T z p)), .ref (2000 + 1)] l67 _
    refine ab_callS (As := [.ref (2000 + 1), .int (iI (sg T z p))]) (rest := []) dX3_readItems_70 lX3_127 (Nat.le_of_ble_eq_true rfl) (Nat.le_of_ble_eq_true rfl) rfl ?_
    refine c_itemBy1 (by omega) ?_
    refine (Classical.em (pof 1 (sg T z p) = -1)).elim (fun hk => ?_) (fun hk => ?_)
    · skip
      rw [hk]
      show ab_X (d + 5) mX3_readItems 73 [(0, .ref 3), (1, .ref (2000 + 1)), (2, .ref (1000 + 3)), (3, .ref (1000 + 4)), (5, .int (iI (i : Int)))] [.int (iI (-1))] l67 _
      refine ab_istore (ls' := [(6, .int (iI (-1))), (0, .ref 3), (1, .ref (2000 + 1)), (2, .ref (1000 + 3)), (3, .ref (1000 + 4)), (5, .int (iI (i : Int)))]) dX3_readItems_73 (by decide) rfl ?_
      refine ab_iload (k := 0) dX3_readItems_75 rfl ?_
      refine z_iconst dX3_readItems_77 ?_
      refine z_icmp_eq (tgt := 91) dX3_readItems_78 (by decide) (by decide) (by decide) (fun _ => ?_) (fun c78 => absurd c78 (by decide))
      refine z_vret dX3_readItems_91 rfl ?_
      first
      | (rw [kit_n hk] at hR; exact K1 _ _ _ _ hR.symm (lk_lk T z p) (by have := lk_ge T z p; omega) hv (hs.trans (sm189 sl67)) Sl67 (VH_m V sl67 (by decide)))
      | (have ht1 : tl k = true := by
           have := U k hkn
           by_cases e : tl k = true
           · exact e
           · rw [if_neg e] at this; omega
         rw [kit_t hk1 ht1] at hR; exact K1 _ _ _ _ hR.symm (lk_lk T z p) (by have := lk_ge T z p; omega) hv (hs.trans (sm189 sl67)) Sl67 (VH_m V sl67 (by decide)))
    · skip
      obtain ⟨k, hk1, hk2, hk3, hk4⟩ := pof_i (by decide) hk
      rw [hk1]
      have hkn : k < 2 := hk2
      have hkb := kl_b 1 k
      have hkm := km_b 1 k
      have zin := sg_in (T := T) (z := z) (p := p) hk4
      show ab_X (d + 5) mX3_readItems 73 [(0, .ref 3), (1, .ref (2000 + 1)), (2, .ref (1000 + 3)), (3, .ref (1000 + 4)), (5, .int (iI (i : Int)))] [.int (iI (k : Int))] l67 _
      refine ab_istore (ls' := [(6, .int (iI (k : Int))), (0, .ref 3), (1, .ref (2000 + 1)), (2, .ref (1000 + 3)), (3, .ref (1000 + 4)), (5, .int (iI (i : Int)))]) dX3_readItems_73 (by decide) rfl ?_
      refine ab_iload (k := 0) dX3_readItems_75 rfl ?_
      refine z_iconst dX3_readItems_77 ?_
      refine z_icmp_eq (tgt := 91) dX3_readItems_78 (by decide) (by omega) (by decide) (fun c78 => ?_) (fun c78 => ?_)
      · skip
        refine z_vret dX3_readItems_91 rfl ?_
        first
        | (rw [kit_n hk] at hR; exact K1 _ _ _ _ hR.symm (lk_lk T z p) (by have := lk_ge T z p; omega) hv (hs.trans (sm189 sl67)) Sl67 (VH_m V sl67 (by decide)))
        | (have ht1 : tl k = true := by
             have := U k hkn
             by_cases e : tl k = true
             · exact e
             · rw [if_neg e] at this; omega
           rw [kit_t hk1 ht1] at hR; exact K1 _ _ _ _ hR.symm (lk_lk T z p) (by have := lk_ge T z p; omega) hv (hs.trans (sm189 sl67)) Sl67 (VH_m V sl67 (by decide)))
      · skip
        refine ab_aload_n (k := 1) dX3_readItems_81 rfl rfl ?_
        refine z_getP (b := 9) dX3_readItems_82 fX3_22 rfl rfl rfl ?_
        have hUk := U k hkn
        have hUb : zv h 9 k = 0 ∨ zv h 9 k = 1 := by rw [hUk]; split <;> omega
        refine ab_iload (k := 0) dX3_readItems_85 rfl ?_
        refine z_bald dX3_readItems_87 (Or.inr rfl) (by omega) (by omega) ?_
        simp only [Int.toNat_natCast]
        refine z_is (y := zv h 9 k) (sl67.1 9 k (by decide)) ?_
        refine z_if_eq (tgt := 92) dX3_readItems_88 (by decide) (by omega) (fun c88 => ?_) (fun c88 => ?_)
        · skip
          refine ab_aload_n (k := 1) dX3_readItems_92 rfl rfl ?_
          refine z_getP (b := 1) dX3_readItems_93 fX3_26 rfl rfl rfl ?_
          refine ab_callV (As := []) (rest := []) dX3_readItems_96 lX3_60 rfl (Nat.le_of_ble_eq_true rfl) (Nat.le_of_ble_eq_true rfl) rfl ?_
          refine c_tstep ht Sl67 (by omega) (fun l96 sl96 Sl96 => ?_)
          show ab_X (d + 5) mX3_readItems 99 [(6, .int (iI (k : Int))), (0, .ref 3), (1, .ref (2000 + 1)), (2, .ref (1000 + 3)), (3, .ref (1000 + 4)), (5, .int (iI (i : Int)))] [] l96 _
          refine ab_aload_n (k := 1) dX3_readItems_99 rfl rfl ?_
          refine z_getP (b := 9) dX3_readItems_100 fX3_22 rfl rfl rfl ?_
          refine ab_iload (k := 0) dX3_readItems_103 rfl ?_
          refine z_iconst dX3_readItems_105 ?_
          refine z_zast dX3_readItems_106 rfl (by omega) (by omega) (Or.inr rfl) ?_
          simp only [Int.toNat_natCast]
          obtain ⟨l106, el106⟩ : ∃ z : ab_H, z = zp l96 9 k 1 := ⟨_, rfl⟩
          rw [← el106]
          have Sl106 : TL T z l106 (lk T z p + 1) := by rw [el106]; exact TL_sm Sl96 (sm_zp (l := [9]) (by decide)) (by decide) (by decide)
          refine ab_aload_n (k := 1) dX3_readItems_107 rfl rfl ?_
          refine z_getP (b := 8) dX3_readItems_108 fX3_18 rfl rfl rfl ?_
          refine ab_iload (k := 0) dX3_readItems_111 rfl ?_
          refine ab_aload_n (k := 1) dX3_readItems_113 rfl rfl ?_
          refine z_getP (b := 1) dX3_readItems_114 fX3_26 rfl rfl rfl ?_
          refine z_iconst dX3_readItems_117 ?_
          refine ab_aload_n (k := 3) dX3_readItems_118 rfl rfl ?_
          refine ab_iload (k := 0) dX3_readItems_119 rfl ?_
          refine ab_tald dX3_readItems_121 (by decide) (iI_in (n := 2) (by omega) (by omega) (by decide)) ?_
          rw [sc_1_0 hkn]
          refine ab_aload_n (k := 4) dX3_readItems_122 rfl rfl ?_
          refine ab_iload (k := 0) dX3_readItems_123 rfl ?_
          refine ab_tald dX3_readItems_125 (by decide) (iI_in (n := 2) (by omega) (by omega) (by decide)) ?_
          rw [sc_1_1 hkn]
          refine ab_callV (As := [.int (iI 2), .int (iI (kl 1 k)), .int (iI (km 1 k))]) (rest := [.int (iI (k : Int)), .ref 8]) dX3_readItems_126 lX3_131 rfl (Nat.le_of_ble_eq_true rfl) (Nat.le_of_ble_eq_true rfl) rfl ?_
          refine c_tnumW ht (by omega) (by omega) Sl106 (fun l126 q126 v126 j126 b126 vb126 sl126 Sl126 => ?_) (fun e126 v126 w126 j126 n126 vb126 se126 Se126 => ?_)
          · skip
            show ab_X (d + 5) mX3_readItems 129 [(6, .int (iI (k : Int))), (0, .ref 3), (1, .ref (2000 + 1)), (2, .ref (1000 + 3)), (3, .ref (1000 + 4)), (5, .int (iI (i : Int)))] [.int (iI v126), .int (iI (k : Int)), .ref 8] l126 _
            refine z_iast dX3_readItems_129 rfl (by omega) (by omega) ?_
            simp only [Int.toNat_natCast]
            refine z_iinc (k := 5) (v := (i : Int) + 1) (ls' := [(5, .int (iI ((i : Int) + 1))), (6, .int (iI (k : Int))), (0, .ref 3), (1, .ref (2000 + 1)), (2, .ref (1000 + 3)), (3, .ref (1000 + 4))]) dX3_readItems_130 rfl rfl (by decide) rfl ?_
            refine ab_goto (tgt := 53) dX3_readItems_133 (by decide) ?_
            refine ab_sub (ls' := [(0, .ref 3), (1, .ref (2000 + 1)), (2, .ref (1000 + 3)), (3, .ref (1000 + 4)), (5, .int (iI ((i : Int) + 1)))]) (ks := [2, 3, 4, 5, 0]) rfl ?_
            have hs8 : sm [8] l126 (zp l126 8 k v126) := sm_zp (by decide)
            have hU := TH_s (k := k) (TH_m (TH_m U sl67 (by decide)) sl96 (by decide))
            rw [← el106] at hU
            have hV : VH 1 l126 v := VH_m (by rw [el106]; exact VH_m (VH_m (VH_m V sl67 (by decide)) sl96 (by decide)) (sm_zp (l := [9]) (by decide)) (by decide)) sl126 (by decide)
            refine ih _ (by omega) q126 (i + 1) _ _ _ rfl (by omega) ((((hs.trans (sm189 sl67)).trans (sm189 sl96)).trans (by rw [el106]; exact sm_zp (by decide))).trans ((sm189 sl126).trans (sm_zp (by decide)))) (by have := lk_ge T z p; omega) (TL_sm Sl126 hs8 (by decide) (by decide)) (TH_m (TH_m hU sl126 (by decide)) hs8 (by decide)) (VH_s hV hkn (by omega)) (vOK_s hv hkn vb126) ?_
            rw [← hR, show 2 - i = (2 - (i + 1)) + 1 by omega]
            exact (kit_1 hk1 (fun q => by have := U k hkn; rw [if_pos q] at this; omega) j126).symm
          · skip
            show ab_X (d + 5) mX3_readItems 129 [(6, .int (iI (k : Int))), (0, .ref 3), (1, .ref (2000 + 1)), (2, .ref (1000 + 3)), (3, .ref (1000 + 4)), (5, .int (iI (i : Int)))] [.int (iI v126), .int (iI (k : Int)), .ref 8] e126 _
            refine z_iast dX3_readItems_129 rfl (by omega) (by omega) ?_
            simp only [Int.toNat_natCast]
            refine z_iinc (k := 5) (v := (i : Int) + 1) (ls' := [(5, .int (iI ((i : Int) + 1))), (6, .int (iI (k : Int))), (0, .ref 3), (1, .ref (2000 + 1)), (2, .ref (1000 + 3)), (3, .ref (1000 + 4))]) dX3_readItems_130 rfl rfl (by decide) rfl ?_
            refine ab_goto (tgt := 53) dX3_readItems_133 (by decide) ?_
            refine ab_sub (ls' := [(0, .ref 3), (1, .ref (2000 + 1)), (2, .ref (1000 + 3)), (3, .ref (1000 + 4)), (5, .int (iI ((i : Int) + 1)))]) (ks := [2, 3, 4, 5, 0]) rfl ?_
            have hs8 : sm [8] e126 (zp e126 8 k v126) := sm_zp (by decide)
            have hD := TD_sm Se126 hs8 (by decide)
            have vv : ∀ m, m < 2 → 0 ≤ zv (zp e126 8 k v126) 8 m ∧ zv (zp e126 8 k v126) 8 m ≤ 9999 := fun m hm => by
              by_cases e : m = k
              · subst e; rw [zv_zp_s (by omega)]; exact vb126
              · rw [zv_zp_ne (by omega), se126.1 8 m (by decide), el106, zv_zp_a (by decide), sl96.1 8 m (by decide), sl67.1 8 m (by decide), V m hm]
                have := hv m hm
                have := kl_b 1 m
                have := km_b 1 m
                omega
            refine dl_items1 (i := i + 1) hz (by omega) hD (fun h' s' S' => K0 h' _ (by rw [← hR, show 2 - i = (2 - (i + 1)) + 1 by omega]; exact kit_2 hk1 (fun q => by have := U k hkn; rw [if_pos q] at this; omega) j126 n126) n126 ?_ S' (by rw [s'.1 8 0 (by decide)]; exact vv 0 (by omega)) (by rw [s'.1 8 1 (by decide)]; exact vv 1 (by omega)))
            exact ((((hs.trans (sm189 sl67)).trans (sm189 sl96)).trans (by rw [el106]; exact sm_zp (by decide))).trans (sm189 se126)).trans ((sm_zp (by decide)).trans (sm189 s'))
        · skip
          refine z_vret dX3_readItems_91 rfl ?_
          first
          | (rw [kit_n hk] at hR; exact K1 _ _ _ _ hR.symm (lk_lk T z p) (by have := lk_ge T z p; omega) hv (hs.trans (sm189 sl67)) Sl67 (VH_m V sl67 (by decide)))
          | (have ht1 : tl k = true := by
               have := U k hkn
               by_cases e : tl k = true
               · exact e
               · rw [if_neg e] at this; omega
             rw [kit_t hk1 ht1] at hR; exact K1 _ _ _ _ hR.symm (lk_lk T z p) (by have := lk_ge T z p; omega) hv (hs.trans (sm189 sl67)) Sl67 (VH_m V sl67 (by decide)))
theorem sc_2_0 {k : Nat} (h : k < 2) : (ab_sc 6).getD (iI (k : Int)).toNatClampNeg 0 = iI (kl 2 k) := (show ∀ k : Nat, k < 2 → (ab_sc 6).getD (iI (k : Int)).toNatClampNeg 0 = iI (kl 2 k) by decide) k h
theorem sc_2_1 {k : Nat} (h : k < 2) : (ab_sc 7).getD (iI (k : Int)).toNatClampNeg 0 = iI (km 2 k) := (show ∀ k : Nat, k < 2 → (ab_sc 7).getD (iI (k : Int)).toNatClampNeg 0 = iI (km 2 k) by decide) k h
theorem dl_items2 {d : Nat} {h : ab_H} {Q : ab_Q} {z : Nat} {w : Int} {i : Nat}  (hz : z ≤ 160) (hi : i ≤ 3) (Seh : TD z h w) (K : ∀ h', sm [1] h h' → TD z h' w → Q none h') : ab_X (d + 5) mX3_readItems 53 [(0, .ref 3), (1, .ref (2000 + 2)), (2, .ref (1000 + 6)), (3, .ref (1000 + 7)), (5, .int (iI (i : Int)))] [] h Q := by
  refine ab_iload (k := 4) dX3_readItems_53 rfl ?_
  refine ab_aload_n (k := 1) dX3_readItems_55 rfl rfl ?_
  refine ab_callT (As := []) (rest := [.int (iI (i : Int))]) dX3_readItems_56 lX3_122 (by decide) (Nat.le_of_ble_eq_true rfl) (Nat.le_of_ble_eq_true rfl) rfl ?_
  refine c_slen (j := 2) (by decide) ?_
  show ab_X (d + 5) mX3_readItems 59 [(0, .ref 3), (1, .ref (2000 + 2)), (2, .ref (1000 + 6)), (3, .ref (1000 + 7)), (5, .int (iI (i : Int)))] [.int (iI 2), .int (iI (i : Int))] h _
  refine z_icmp_ge (tgt := 136) dX3_readItems_59 (by decide) (by omega) (by decide) (fun c59 => ?_) (fun c59 => ?_)
  · skip
    refine z_vret dX3_readItems_136 rfl ?_
    exact K _ sm.refl Seh
  · skip
    refine ab_aload_n (k := 1) dX3_readItems_62 rfl rfl ?_
    refine ab_aload_n (k := 0) dX3_readItems_63 rfl rfl ?_
    refine z_getP (b := 1) dX3_readItems_64 fX3_26 rfl rfl rfl ?_
    refine ab_callV (As := []) (rest := [.ref (2000 + 2)]) dX3_readItems_67 lX3_56 rfl (Nat.le_of_ble_eq_true rfl) (Nat.le_of_ble_eq_true rfl) rfl ?_
    refine c_dlook hz Seh (fun e67 se67 Se67 => ?_)
    show ab_X (d + 5) mX3_readItems 70 [(0, .ref 3), (1, .ref (2000 + 2)), (2, .ref (1000 + 6)), (3, .ref (1000 + 7)), (5, .int (iI (i : Int)))] [.int (iI (-1)), .ref (2000 + 2)] e67 _
    refine ab_callS (As := [.ref (2000 + 2), .int (iI (-1))]) (rest := []) dX3_readItems_70 lX3_127 (Nat.le_of_ble_eq_true rfl) (Nat.le_of_ble_eq_true rfl) rfl ?_
    refine c_itemBy2 (by decide) ?_
    show ab_X (d + 5) mX3_readItems 73 [(0, .ref 3), (1, .ref (2000 + 2)), (2, .ref (1000 + 6)), (3, .ref (1000 + 7)), (5, .int (iI (i : Int)))] [.int (iI (-1))] e67 _
    refine ab_istore (ls' := [(6, .int (iI (-1))), (0, .ref 3), (1, .ref (2000 + 2)), (2, .ref (1000 + 6)), (3, .ref (1000 + 7)), (5, .int (iI (i : Int)))]) dX3_readItems_73 (by decide) rfl ?_
    refine ab_iload (k := 0) dX3_readItems_75 rfl ?_
    refine z_iconst dX3_readItems_77 ?_
    refine z_icmp_eq (tgt := 91) dX3_readItems_78 (by decide) (by decide) (by decide) (fun _ => ?_) (fun c78 => absurd c78 (by decide))
    refine z_vret dX3_readItems_91 rfl ?_
    exact K _ se67 Se67
theorem lp_items2 {d : Nat} {Q : ab_Q} {h0 : ab_H} {T : Nat → Int} {z p0 : Nat} {R : kR}  (ht : tx T z) (K1 : ∀ h' p' q v, R = (-1, q, v) → lk T z p' = q → p0 ≤ p' → vOK 2 v → sm [1, 8, 9] h0 h' → TL T z h' p' → VH 2 h' v → Q none h') (K0 : ∀ h' w, R.1 = w → ¬ w = -1 → sm [1, 8, 9] h0 h' → TD z h' w → (0 ≤ zv h' 8 0 ∧ zv h' 8 0 ≤ 9999) → (0 ≤ zv h' 8 1 ∧ zv h' 8 1 ≤ 9999) → Q none h') : ∀ (nn : Nat) (p : Nat) (i : Nat) (tl : Nat → Bool) (v : V3) (h : ab_H), 2 - i = nn → (i ≤ 2) → (sm [1, 8, 9] h0 h) → (p0 ≤ p) → (TL T z h p) → (TH 2 h tl) → (VH 2 h v) → (vOK 2 v) → (kit T z 2 (2 - i) tl v p = R) → ab_X (d + 5) mX3_readItems 53 [(0, .ref 3), (1, .ref (2000 + 2)), (2, .ref (1000 + 6)), (3, .ref (1000 + 7)), (5, .int (iI (i : Int)))] [] h Q := by
  intro nn
  induction nn using Nat.strongRecOn with
  | ind nn ih =>
  intro p i tl v h hnn hi hs hp0 Sh U V hv hR
  have hz := ht.1
  have hpz := Sh.2.2.2.2
  refine ab_iload (k := 4) dX3_readItems_53 rfl ?_
  refine ab_aload_n (k := 1) dX3_readItems_55 rfl rfl ?_
  refine ab_callT (As := []) (rest := [.int (iI (i : Int))]) dX3_readItems_56 lX3_122 (by decide) (Nat.le_of_ble_eq_true rfl) (Nat.le_of_ble_eq_true rfl) rfl ?_
  refine c_slen (j := 2) (by decide) ?_
  show ab_X (d + 5) mX3_readItems 59 [(0, .ref 3), (1, .ref (2000 + 2)), (2, .ref (1000 + 6)), (3, .ref (1000 + 7)), (5, .int (iI (i : Int)))] [.int (iI 2), .int (iI (i : Int))] h _
  refine z_icmp_ge (tgt := 136) dX3_readItems_59 (by decide) (by omega) (by decide) (fun c59 => ?_) (fun c59 => ?_)
  · skip
    refine z_vret dX3_readItems_136 rfl ?_
    have e : 2 - i = 0 := by omega
    rw [e, kit_0] at hR
    exact K1 _ _ _ _ hR.symm rfl hp0 hv hs Sh V
  · skip
    refine ab_aload_n (k := 1) dX3_readItems_62 rfl rfl ?_
    refine ab_aload_n (k := 0) dX3_readItems_63 rfl rfl ?_
    refine z_getP (b := 1) dX3_readItems_64 fX3_26 rfl rfl rfl ?_
    refine ab_callV (As := []) (rest := [.ref (2000 + 2)]) dX3_readItems_67 lX3_56 rfl (Nat.le_of_ble_eq_true rfl) (Nat.le_of_ble_eq_true rfl) rfl ?_
    refine c_tlook ht Sh (fun l67 sl67 Sl67 => ?_)
    have y67 := sg_b ht p
    show ab_X (d + 5) mX3_readItems 70 [(0, .ref 3), (1, .ref (2000 + 2)), (2, .ref (1000 + 6)), (3, .ref (1000 + 7)), (5, .int (iI (i : Int)))] [.int (iI (sg T z p)), .ref (2000 + 2)] l67 _
    refine ab_callS (As := [.ref (2000 + 2), .int (iI (sg T z p))]) (rest := []) dX3_readItems_70 lX3_127 (Nat.le_of_ble_eq_true rfl) (Nat.le_of_ble_eq_true rfl) rfl ?_
    refine c_itemBy2 (by omega) ?_
    refine (Classical.em (pof 2 (sg T z p) = -1)).elim (fun hk => ?_) (fun hk => ?_)
    · skip
      rw [hk]
      show ab_X (d + 5) mX3_readItems 73 [(0, .ref 3), (1, .ref (2000 + 2)), (2, .ref (1000 + 6)), (3, .ref (1000 + 7)), (5, .int (iI (i : Int)))] [.int (iI (-1))] l67 _
      refine ab_istore (ls' := [(6, .int (iI (-1))), (0, .ref 3), (1, .ref (2000 + 2)), (2, .ref (1000 + 6)), (3, .ref (1000 + 7)), (5, .int (iI (i : Int)))]) dX3_readItems_73 (by decide) rfl ?_
      refine ab_iload (k := 0) dX3_readItems_75 rfl ?_
      refine z_iconst dX3_readItems_77 ?_
      refine z_icmp_eq (tgt := 91) dX3_readItems_78 (by decide) (by decide) (by decide) (fun _ => ?_) (fun c78 => absurd c78 (by decide))
      refine z_vret dX3_readItems_91 rfl ?_
      first
      | (rw [kit_n hk] at hR; exact K1 _ _ _ _ hR.symm (lk_lk T z p) (by have := lk_ge T z p; omega) hv (hs.trans (sm189 sl67)) Sl67 (VH_m V sl67 (by decide)))
      | (have ht1 : tl k = true := by
           have := U k hkn
           by_cases e : tl k = true
           · exact e
           · rw [if_neg e] at this; omega
         rw [kit_t hk1 ht1] at hR; exact K1 _ _ _ _ hR.symm (lk_lk T z p) (by have := lk_ge T z p; omega) hv (hs.trans (sm189 sl67)) Sl67 (VH_m V sl67 (by decide)))
    · skip
      obtain ⟨k, hk1, hk2, hk3, hk4⟩ := pof_i (by decide) hk
      rw [hk1]
      have hkn : k < 2 := hk2
      have hkb := kl_b 2 k
      have hkm := km_b 2 k
      have zin := sg_in (T := T) (z := z) (p := p) hk4
      show ab_X (d + 5) mX3_readItems 73 [(0, .ref 3), (1, .ref (2000 + 2)), (2, .ref (1000 + 6)), (3, .ref (1000 + 7)), (5, .int (iI (i : Int)))] [.int (iI (k : Int))] l67 _
      refine ab_istore (ls' := [(6, .int (iI (k : Int))), (0, .ref 3), (1, .ref (2000 + 2)), (2, .ref (1000 + 6)), (3, .ref (1000 + 7)), (5, .int (iI (i : Int)))]) dX3_readItems_73 (by decide) rfl ?_
      refine ab_iload (k := 0) dX3_readItems_75 rfl ?_
      refine z_iconst dX3_readItems_77 ?_
      refine z_icmp_eq (tgt := 91) dX3_readItems_78 (by decide) (by omega) (by decide) (fun c78 => ?_) (fun c78 => ?_)
      · skip
        refine z_vret dX3_readItems_91 rfl ?_
        first
        | (rw [kit_n hk] at hR; exact K1 _ _ _ _ hR.symm (lk_lk T z p) (by have := lk_ge T z p; omega) hv (hs.trans (sm189 sl67)) Sl67 (VH_m V sl67 (by decide)))
        | (have ht1 : tl k = true := by
             have := U k hkn
             by_cases e : tl k = true
             · exact e
             · rw [if_neg e] at this; omega
           rw [kit_t hk1 ht1] at hR; exact K1 _ _ _ _ hR.symm (lk_lk T z p) (by have := lk_ge T z p; omega) hv (hs.trans (sm189 sl67)) Sl67 (VH_m V sl67 (by decide)))
      · skip
        refine ab_aload_n (k := 1) dX3_readItems_81 rfl rfl ?_
        refine z_getP (b := 9) dX3_readItems_82 fX3_22 rfl rfl rfl ?_
        have hUk := U k hkn
        have hUb : zv h 9 k = 0 ∨ zv h 9 k = 1 := by rw [hUk]; split <;> omega
        refine ab_iload (k := 0) dX3_readItems_85 rfl ?_
        refine z_bald dX3_readItems_87 (Or.inr rfl) (by omega) (by omega) ?_
        simp only [Int.toNat_natCast]
        refine z_is (y := zv h 9 k) (sl67.1 9 k (by decide)) ?_
        refine z_if_eq (tgt := 92) dX3_readItems_88 (by decide) (by omega) (fun c88 => ?_) (fun c88 => ?_)
        · skip
          refine ab_aload_n (k := 1) dX3_readItems_92 rfl rfl ?_
          refine z_getP (b := 1) dX3_readItems_93 fX3_26 rfl rfl rfl ?_
          refine ab_callV (As := []) (rest := []) dX3_readItems_96 lX3_60 rfl (Nat.le_of_ble_eq_true rfl) (Nat.le_of_ble_eq_true rfl) rfl ?_
          refine c_tstep ht Sl67 (by omega) (fun l96 sl96 Sl96 => ?_)
          show ab_X (d + 5) mX3_readItems 99 [(6, .int (iI (k : Int))), (0, .ref 3), (1, .ref (2000 + 2)), (2, .ref (1000 + 6)), (3, .ref (1000 + 7)), (5, .int (iI (i : Int)))] [] l96 _
          refine ab_aload_n (k := 1) dX3_readItems_99 rfl rfl ?_
          refine z_getP (b := 9) dX3_readItems_100 fX3_22 rfl rfl rfl ?_
          refine ab_iload (k := 0) dX3_readItems_103 rfl ?_
          refine z_iconst dX3_readItems_105 ?_
          refine z_zast dX3_readItems_106 rfl (by omega) (by omega) (Or.inr rfl) ?_
          simp only [Int.toNat_natCast]
          obtain ⟨l106, el106⟩ : ∃ z : ab_H, z = zp l96 9 k 1 := ⟨_, rfl⟩
          rw [← el106]
          have Sl106 : TL T z l106 (lk T z p + 1) := by rw [el106]; exact TL_sm Sl96 (sm_zp (l := [9]) (by decide)) (by decide) (by decide)
          refine ab_aload_n (k := 1) dX3_readItems_107 rfl rfl ?_
          refine z_getP (b := 8) dX3_readItems_108 fX3_18 rfl rfl rfl ?_
          refine ab_iload (k := 0) dX3_readItems_111 rfl ?_
          refine ab_aload_n (k := 1) dX3_readItems_113 rfl rfl ?_
          refine z_getP (b := 1) dX3_readItems_114 fX3_26 rfl rfl rfl ?_
          refine z_iconst dX3_readItems_117 ?_
          refine ab_aload_n (k := 3) dX3_readItems_118 rfl rfl ?_
          refine ab_iload (k := 0) dX3_readItems_119 rfl ?_
          refine ab_tald dX3_readItems_121 (by decide) (iI_in (n := 2) (by omega) (by omega) (by decide)) ?_
          rw [sc_2_0 hkn]
          refine ab_aload_n (k := 4) dX3_readItems_122 rfl rfl ?_
          refine ab_iload (k := 0) dX3_readItems_123 rfl ?_
          refine ab_tald dX3_readItems_125 (by decide) (iI_in (n := 2) (by omega) (by omega) (by decide)) ?_
          rw [sc_2_1 hkn]
          refine ab_callV (As := [.int (iI 2), .int (iI (kl 2 k)), .int (iI (km 2 k))]) (rest := [.int (iI (k : Int)), .ref 8]) dX3_readItems_126 lX3_131 rfl (Nat.le_of_ble_eq_true rfl) (Nat.le_of_ble_eq_true rfl) rfl ?_
          refine c_tnumW ht (by omega) (by omega) Sl106 (fun l126 q126 v126 j126 b126 vb126 sl126 Sl126 => ?_) (fun e126 v126 w126 j126 n126 vb126 se126 Se126 => ?_)
          · skip
            show ab_X (d + 5) mX3_readItems 129 [(6, .int (iI (k : Int))), (0, .ref 3), (1, .ref (2000 + 2)), (2, .ref (1000 + 6)), (3, .ref (1000 + 7)), (5, .int (iI (i : Int)))] [.int (iI v126), .int (iI (k : Int)), .ref 8] l126 _
            refine z_iast dX3_readItems_129 rfl (by omega) (by omega) ?_
            simp only [Int.toNat_natCast]
            refine z_iinc (k := 5) (v := (i : Int) + 1) (ls' := [(5, .int (iI ((i : Int) + 1))), (6, .int (iI (k : Int))), (0, .ref 3), (1, .ref (2000 + 2)), (2, .ref (1000 + 6)), (3, .ref (1000 + 7))]) dX3_readItems_130 rfl rfl (by decide) rfl ?_
            refine ab_goto (tgt := 53) dX3_readItems_133 (by decide) ?_
            refine ab_sub (ls' := [(0, .ref 3), (1, .ref (2000 + 2)), (2, .ref (1000 + 6)), (3, .ref (1000 + 7)), (5, .int (iI ((i : Int) + 1)))]) (ks := [2, 3, 4, 5, 0]) rfl ?_
            have hs8 : sm [8] l126 (zp l126 8 k v126) := sm_zp (by decide)
            have hU := TH_s (k := k) (TH_m (TH_m U sl67 (by decide)) sl96 (by decide))
            rw [← el106] at hU
            have hV : VH 2 l126 v := VH_m (by rw [el106]; exact VH_m (VH_m (VH_m V sl67 (by decide)) sl96 (by decide)) (sm_zp (l := [9]) (by decide)) (by decide)) sl126 (by decide)
            refine ih _ (by omega) q126 (i + 1) _ _ _ rfl (by omega) ((((hs.trans (sm189 sl67)).trans (sm189 sl96)).trans (by rw [el106]; exact sm_zp (by decide))).trans ((sm189 sl126).trans (sm_zp (by decide)))) (by have := lk_ge T z p; omega) (TL_sm Sl126 hs8 (by decide) (by decide)) (TH_m (TH_m hU sl126 (by decide)) hs8 (by decide)) (VH_s hV hkn (by omega)) (vOK_s hv hkn vb126) ?_
            rw [← hR, show 2 - i = (2 - (i + 1)) + 1 by omega]
            exact (kit_1 hk1 (fun q => by have := U k hkn; rw [if_pos q] at this; omega) j126).symm
          · skip
            show ab_X (d + 5) mX3_readItems 129 [(6, .int (iI (k : Int))), (0, .ref 3), (1, .ref (2000 + 2)), (2, .ref (1000 + 6)), (3, .ref (1000 + 7)), (5, .int (iI (i : Int)))] [.int (iI v126), .int (iI (k : Int)), .ref 8] e126 _
            refine z_iast dX3_readItems_129 rfl (by omega) (by omega) ?_
            simp only [Int.toNat_natCast]
            refine z_iinc (k := 5) (v := (i : Int) + 1) (ls' := [(5, .int (iI ((i : Int) + 1))), (6, .int (iI (k : Int))), (0, .ref 3), (1, .ref (2000 + 2)), (2, .ref (1000 + 6)), (3, .ref (1000 + 7))]) dX3_readItems_130 rfl rfl (by decide) rfl ?_
            refine ab_goto (tgt := 53) dX3_readItems_133 (by decide) ?_
            refine ab_sub (ls' := [(0, .ref 3), (1, .ref (2000 + 2)), (2, .ref (1000 + 6)), (3, .ref (1000 + 7)), (5, .int (iI ((i : Int) + 1)))]) (ks := [2, 3, 4, 5, 0]) rfl ?_
            have hs8 : sm [8] e126 (zp e126 8 k v126) := sm_zp (by decide)
            have hD := TD_sm Se126 hs8 (by decide)
            have vv : ∀ m, m < 2 → 0 ≤ zv (zp e126 8 k v126) 8 m ∧ zv (zp e126 8 k v126) 8 m ≤ 9999 := fun m hm => by
              by_cases e : m = k
              · subst e; rw [zv_zp_s (by omega)]; exact vb126
              · rw [zv_zp_ne (by omega), se126.1 8 m (by decide), el106, zv_zp_a (by decide), sl96.1 8 m (by decide), sl67.1 8 m (by decide), V m hm]
                have := hv m hm
                have := kl_b 2 m
                have := km_b 2 m
                omega
            refine dl_items2 (i := i + 1) hz (by omega) hD (fun h' s' S' => K0 h' _ (by rw [← hR, show 2 - i = (2 - (i + 1)) + 1 by omega]; exact kit_2 hk1 (fun q => by have := U k hkn; rw [if_pos q] at this; omega) j126 n126) n126 ?_ S' (by rw [s'.1 8 0 (by decide)]; exact vv 0 (by omega)) (by rw [s'.1 8 1 (by decide)]; exact vv 1 (by omega)))
            exact ((((hs.trans (sm189 sl67)).trans (sm189 sl96)).trans (by rw [el106]; exact sm_zp (by decide))).trans (sm189 se126)).trans ((sm_zp (by decide)).trans (sm189 s'))
        · skip
          refine z_vret dX3_readItems_91 rfl ?_
          first
          | (rw [kit_n hk] at hR; exact K1 _ _ _ _ hR.symm (lk_lk T z p) (by have := lk_ge T z p; omega) hv (hs.trans (sm189 sl67)) Sl67 (VH_m V sl67 (by decide)))
          | (have ht1 : tl k = true := by
               have := U k hkn
               by_cases e : tl k = true
               · exact e
               · rw [if_neg e] at this; omega
             rw [kit_t hk1 ht1] at hR; exact K1 _ _ _ _ hR.symm (lk_lk T z p) (by have := lk_ge T z p; omega) hv (hs.trans (sm189 sl67)) Sl67 (VH_m V sl67 (by decide)))
theorem c_items0 {d : Nat} {h : ab_H} {Q : ab_Q} {T : Nat → Int} {z p : Nat}  (ht : tx T z) (Sh : TL T z h p) (hp : p < z) (K1 : ∀ h' p' q v, kit T z 0 3 (fun _ => false) (ku 0) (p + 1) = (-1, q, v) → lk T z p' = q → p + 1 ≤ p' → vOK 0 v → sm [1, 8, 9] h h' → TL T z h' p' → VH 0 h' v → Q none h') (K0 : ∀ h' w, (kit T z 0 3 (fun _ => false) (ku 0) (p + 1)).1 = w → ¬ w = -1 → sm [1, 8, 9] h h' → TD z h' w → (0 ≤ zv h' 8 0 ∧ zv h' 8 0 ≤ 9999) → (0 ≤ zv h' 8 1 ∧ zv h' 8 1 ≤ 9999) → Q none h') : ab_X (d + 5) mX3_readItems 0 (lv_args 0 [.ref 3, .ref (2000 + 0), .ref (1000 + 1), .ref (1000 + 2), .ref (1000 + 0)]) [] h Q := by
  show ab_X (d + 5) mX3_readItems 0 [(0, .ref 3), (1, .ref (2000 + 0)), (2, .ref (1000 + 1)), (3, .ref (1000 + 2)), (4, .ref (1000 + 0))] [] h Q
  have hz := ht.1
  have hpz := Sh.2.2.2.2
  refine z_iconst dX3_readItems_0 ?_
  refine ab_istore (ls' := [(5, .int (iI 0)), (0, .ref 3), (1, .ref (2000 + 0)), (2, .ref (1000 + 1)), (3, .ref (1000 + 2)), (4, .ref (1000 + 0))]) dX3_readItems_1 (by decide) rfl ?_
  refine ab_iload (k := 0) dX3_readItems_3 rfl ?_
  refine ab_aload (k := 5) dX3_readItems_5 rfl ?_
  refine ab_tlen (v := iI 3) dX3_readItems_7 (by decide) (by decide) ?_
  refine z_icmp_ge (tgt := 43) dX3_readItems_8 (by decide) (by decide) (by decide) (fun c8 => absurd c8 (by decide)) (fun _ => ?_)
  refine ab_iload (k := 0) dX3_readItems_11 rfl ?_
  refine z_iconst dX3_readItems_13 ?_
  refine z_icmp_ge (tgt := 43) dX3_readItems_14 (by decide) (by decide) (by decide) (fun c14 => absurd c14 (by decide)) (fun _ => ?_)
  refine ab_aload_n (k := 1) dX3_readItems_17 rfl rfl ?_
  refine z_getP (b := 8) dX3_readItems_18 fX3_18 rfl rfl rfl ?_
  refine ab_iload (k := 0) dX3_readItems_21 rfl ?_
  refine ab_aload (k := 5) dX3_readItems_23 rfl ?_
  refine ab_iload (k := 0) dX3_readItems_25 rfl ?_
  refine ab_tald dX3_readItems_27 (by decide) (iI_in (n := 3) (by decide) (by decide) (by decide)) ?_
  rw [show (ab_sc 0).getD (iI 0).toNatClampNeg 0 = iI 12 by decide]
  refine z_iast dX3_readItems_28 rfl (by omega) (by omega) ?_
  refine ab_aload_n (k := 1) dX3_readItems_29 rfl rfl ?_
  refine z_getP (b := 9) dX3_readItems_30 fX3_22 rfl rfl rfl ?_
  refine ab_iload (k := 0) dX3_readItems_33 rfl ?_
  refine z_iconst dX3_readItems_35 ?_
  refine z_zast dX3_readItems_36 rfl (by omega) (by omega) (Or.inl rfl) ?_
  refine z_iinc (k := 0) (v := 1) (ls' := [(5, .int (iI 1)), (0, .ref 3), (1, .ref (2000 + 0)), (2, .ref (1000 + 1)), (3, .ref (1000 + 2)), (4, .ref (1000 + 0))]) dX3_readItems_37 rfl rfl (by decide) rfl ?_
  refine ab_goto (tgt := 3) dX3_readItems_40 (by decide) ?_
  refine ab_iload (k := 0) dX3_readItems_3 rfl ?_
  refine ab_aload (k := 5) dX3_readItems_5 rfl ?_
  refine ab_tlen (v := iI 3) dX3_readItems_7 (by decide) (by decide) ?_
  refine z_icmp_ge (tgt := 43) dX3_readItems_8 (by decide) (by decide) (by decide) (fun c8 => absurd c8 (by decide)) (fun _ => ?_)
  refine ab_iload (k := 0) dX3_readItems_11 rfl ?_
  refine z_iconst dX3_readItems_13 ?_
  refine z_icmp_ge (tgt := 43) dX3_readItems_14 (by decide) (by decide) (by decide) (fun c14 => absurd c14 (by decide)) (fun _ => ?_)
  refine ab_aload_n (k := 1) dX3_readItems_17 rfl rfl ?_
  refine z_getP (b := 8) dX3_readItems_18 fX3_18 rfl rfl rfl ?_
  refine ab_iload (k := 0) dX3_readItems_21 rfl ?_
  refine ab_aload (k := 5) dX3_readItems_23 rfl ?_
  refine ab_iload (k := 0) dX3_readItems_25 rfl ?_
  refine ab_tald dX3_readItems_27 (by decide) (iI_in (n := 3) (by decide) (by decide) (by decide)) ?_
  rw [show (ab_sc 0).getD (iI 1).toNatClampNeg 0 = iI 0 by decide]
  refine z_iast dX3_readItems_28 rfl (by omega) (by omega) ?_
  refine ab_aload_n (k := 1) dX3_readItems_29 rfl rfl ?_
  refine z_getP (b := 9) dX3_readItems_30 fX3_22 rfl rfl rfl ?_
  refine ab_iload (k := 0) dX3_readItems_33 rfl ?_
  refine z_iconst dX3_readItems_35 ?_
  refine z_zast dX3_readItems_36 rfl (by omega) (by omega) (Or.inl rfl) ?_
  refine z_iinc (k := 0) (v := 2) (ls' := [(5, .int (iI 2)), (0, .ref 3), (1, .ref (2000 + 0)), (2, .ref (1000 + 1)), (3, .ref (1000 + 2)), (4, .ref (1000 + 0))]) dX3_readItems_37 rfl rfl (by decide) rfl ?_
  refine ab_goto (tgt := 3) dX3_readItems_40 (by decide) ?_
  refine ab_iload (k := 0) dX3_readItems_3 rfl ?_
  refine ab_aload (k := 5) dX3_readItems_5 rfl ?_
  refine ab_tlen (v := iI 3) dX3_readItems_7 (by decide) (by decide) ?_
  refine z_icmp_ge (tgt := 43) dX3_readItems_8 (by decide) (by decide) (by decide) (fun c8 => absurd c8 (by decide)) (fun _ => ?_)
  refine ab_iload (k := 0) dX3_readItems_11 rfl ?_
  refine z_iconst dX3_readItems_13 ?_
  refine z_icmp_ge (tgt := 43) dX3_readItems_14 (by decide) (by decide) (by decide) (fun c14 => absurd c14 (by decide)) (fun _ => ?_)
  refine ab_aload_n (k := 1) dX3_readItems_17 rfl rfl ?_
  refine z_getP (b := 8) dX3_readItems_18 fX3_18 rfl rfl rfl ?_
  refine ab_iload (k := 0) dX3_readItems_21 rfl ?_
  refine ab_aload (k := 5) dX3_readItems_23 rfl ?_
  refine ab_iload (k := 0) dX3_readItems_25 rfl ?_
  refine ab_tald dX3_readItems_27 (by decide) (iI_in (n := 3) (by decide) (by decide) (by decide)) ?_
  rw [show (ab_sc 0).getD (iI 2).toNatClampNeg 0 = iI 50 by decide]
  refine z_iast dX3_readItems_28 rfl (by omega) (by omega) ?_
  refine ab_aload_n (k := 1) dX3_readItems_29 rfl rfl ?_
  refine z_getP (b := 9) dX3_readItems_30 fX3_22 rfl rfl rfl ?_
  refine ab_iload (k := 0) dX3_readItems_33 rfl ?_
  refine z_iconst dX3_readItems_35 ?_
  refine z_zast dX3_readItems_36 rfl (by omega) (by omega) (Or.inl rfl) ?_
  refine z_iinc (k := 0) (v := 3) (ls' := [(5, .int (iI 3)), (0, .ref 3), (1, .ref (2000 + 0)), (2, .ref (1000 + 1)), (3, .ref (1000 + 2)), (4, .ref (1000 + 0))]) dX3_readItems_37 rfl rfl (by decide) rfl ?_
  refine ab_goto (tgt := 3) dX3_readItems_40 (by decide) ?_
  refine ab_iload (k := 0) dX3_readItems_3 rfl ?_
  refine ab_aload (k := 5) dX3_readItems_5 rfl ?_
  refine ab_tlen (v := iI 3) dX3_readItems_7 (by decide) (by decide) ?_
  refine z_icmp_ge (tgt := 43) dX3_readItems_8 (by decide) (by decide) (by decide) (fun _ => ?_) (fun c8 => absurd c8 (by decide))
  refine ab_aload_n (k := 1) dX3_readItems_43 rfl rfl ?_
  refine z_getP (b := 1) dX3_readItems_44 fX3_26 rfl rfl rfl ?_
  refine ab_callV (As := []) (rest := []) dX3_readItems_47 lX3_60 rfl (Nat.le_of_ble_eq_true rfl) (Nat.le_of_ble_eq_true rfl) rfl ?_
  obtain ⟨hu, ehu⟩ : ∃ x : ab_H, x = zp (zp (zp (zp (zp (zp h 8 0 12) 9 0 0) 8 1 0) 9 1 0) 8 2 50) 9 2 0 := ⟨_, rfl⟩
  refine z_h (h' := hu) ehu.symm ?_
  have hsu : sm [8, 9] h hu := by rw [ehu]; exact ((((((sm_zp (by decide)).trans (sm_zp (by decide))).trans (sm_zp (by decide))).trans (sm_zp (by decide))).trans (sm_zp (by decide))).trans (sm_zp (by decide)))
  have Shu : TL T z hu p := TL_sm Sh hsu (by decide) (by decide)
  have hVu : VH 0 hu (ku 0) := by
    intro m hm
    rw [ehu]
    have hm3 : m < 3 := hm
    rcases (show m = 0 ∨ m = 1 ∨ m = 2 by omega) with rfl | rfl | rfl
    · rw [zv_zp_ne (by decide), zv_zp_ne (by decide), zv_zp_ne (by decide), zv_zp_ne (by decide), zv_zp_ne (by decide), zv_zp_s (by decide)]; rfl
    · rw [zv_zp_ne (by decide), zv_zp_ne (by decide), zv_zp_ne (by decide), zv_zp_s (by decide)]; rfl
    · rw [zv_zp_ne (by decide), zv_zp_s (by decide)]; rfl
  have hTu : TH 0 hu (fun _ => false) := by
    intro m hm
    rw [ehu]
    have hm3 : m < 3 := hm
    rcases (show m = 0 ∨ m = 1 ∨ m = 2 by omega) with rfl | rfl | rfl
    · rw [zv_zp_ne (by decide), zv_zp_ne (by decide), zv_zp_ne (by decide), zv_zp_ne (by decide), zv_zp_s (by decide)]; rfl
    · rw [zv_zp_ne (by decide), zv_zp_ne (by decide), zv_zp_s (by decide)]; rfl
    · rw [zv_zp_s (by decide)]; rfl
  refine c_tstep ht Shu hp (fun l47 sl47 Sl47 => ?_)
  show ab_X (d + 5) mX3_readItems 50 [(5, .int (iI 3)), (0, .ref 3), (1, .ref (2000 + 0)), (2, .ref (1000 + 1)), (3, .ref (1000 + 2)), (4, .ref (1000 + 0))] [] l47 _
  refine z_iconst dX3_readItems_50 ?_
  refine ab_istore (ls' := [(5, .int (iI 0)), (0, .ref 3), (1, .ref (2000 + 0)), (2, .ref (1000 + 1)), (3, .ref (1000 + 2)), (4, .ref (1000 + 0))]) dX3_readItems_51 (by decide) rfl ?_
  refine ab_sub (ls' := [(0, .ref 3), (1, .ref (2000 + 0)), (2, .ref (1000 + 1)), (3, .ref (1000 + 2)), (5, .int (iI 0))]) (ks := [1, 2, 3, 4, 0]) rfl ?_
  have hsm : sm [1, 8, 9] h l47 := (hsu.mono (by decide)).trans (sm189 sl47)
  exact lp_items0 (p0 := p + 1) ht (fun h' p' q v a b b2 c s => K1 h' p' q v a b b2 c (hsm.trans s)) (fun h' w a b s => K0 h' w a b (hsm.trans s)) _ (p + 1) 0 _ _ _ rfl (by omega) sm.refl (by omega) Sl47 (TH_m hTu sl47 (by decide)) (VH_m hVu sl47 (by decide)) (ku_ok (by decide)) rfl
theorem c_items1 {d : Nat} {h : ab_H} {Q : ab_Q} {T : Nat → Int} {z p : Nat}  (ht : tx T z) (Sh : TL T z h p) (hp : p < z) (K1 : ∀ h' p' q v, kit T z 1 2 (fun _ => false) (ku 1) (p + 1) = (-1, q, v) → lk T z p' = q → p + 1 ≤ p' → vOK 1 v → sm [1, 8, 9] h h' → TL T z h' p' → VH 1 h' v → Q none h') (K0 : ∀ h' w, (kit T z 1 2 (fun _ => false) (ku 1) (p + 1)).1 = w → ¬ w = -1 → sm [1, 8, 9] h h' → TD z h' w → (0 ≤ zv h' 8 0 ∧ zv h' 8 0 ≤ 9999) → (0 ≤ zv h' 8 1 ∧ zv h' 8 1 ≤ 9999) → Q none h') : ab_X (d + 5) mX3_readItems 0 (lv_args 0 [.ref 3, .ref (2000 + 1), .ref (1000 + 3), .ref (1000 + 4), .ref (1000 + 5)]) [] h Q := by
  show ab_X (d + 5) mX3_readItems 0 [(0, .ref 3), (1, .ref (2000 + 1)), (2, .ref (1000 + 3)), (3, .ref (1000 + 4)), (4, .ref (1000 + 5))] [] h Q
  have hz := ht.1
  have hpz := Sh.2.2.2.2
  refine z_iconst dX3_readItems_0 ?_
  refine ab_istore (ls' := [(5, .int (iI 0)), (0, .ref 3), (1, .ref (2000 + 1)), (2, .ref (1000 + 3)), (3, .ref (1000 + 4)), (4, .ref (1000 + 5))]) dX3_readItems_1 (by decide) rfl ?_
  refine ab_iload (k := 0) dX3_readItems_3 rfl ?_
  refine ab_aload (k := 5) dX3_readItems_5 rfl ?_
  refine ab_tlen (v := iI 2) dX3_readItems_7 (by decide) (by decide) ?_
  refine z_icmp_ge (tgt := 43) dX3_readItems_8 (by decide) (by decide) (by decide) (fun c8 => absurd c8 (by decide)) (fun _ => ?_)
  refine ab_iload (k := 0) dX3_readItems_11 rfl ?_
  refine z_iconst dX3_readItems_13 ?_
  refine z_icmp_ge (tgt := 43) dX3_readItems_14 (by decide) (by decide) (by decide) (fun c14 => absurd c14 (by decide)) (fun _ => ?_)
  refine ab_aload_n (k := 1) dX3_readItems_17 rfl rfl ?_
  refine z_getP (b := 8) dX3_readItems_18 fX3_18 rfl rfl rfl ?_
  refine ab_iload (k := 0) dX3_readItems_21 rfl ?_
  refine ab_aload (k := 5) dX3_readItems_23 rfl ?_
  refine ab_iload (k := 0) dX3_readItems_25 rfl ?_
  refine ab_tald dX3_readItems_27 (by decide) (iI_in (n := 2) (by decide) (by decide) (by decide)) ?_
  rw [show (ab_sc 5).getD (iI 0).toNatClampNeg 0 = iI 3 by decide]
  refine z_iast dX3_readItems_28 rfl (by omega) (by omega) ?_
  refine ab_aload_n (k := 1) dX3_readItems_29 rfl rfl ?_
  refine z_getP (b := 9) dX3_readItems_30 fX3_22 rfl rfl rfl ?_
  refine ab_iload (k := 0) dX3_readItems_33 rfl ?_
  refine z_iconst dX3_readItems_35 ?_
  refine z_zast dX3_readItems_36 rfl (by omega) (by omega) (Or.inl rfl) ?_
  refine z_iinc (k := 0) (v := 1) (ls' := [(5, .int (iI 1)), (0, .ref 3), (1, .ref (2000 + 1)), (2, .ref (1000 + 3)), (3, .ref (1000 + 4)), (4, .ref (1000 + 5))]) dX3_readItems_37 rfl rfl (by decide) rfl ?_
  refine ab_goto (tgt := 3) dX3_readItems_40 (by decide) ?_
  refine ab_iload (k := 0) dX3_readItems_3 rfl ?_
  refine ab_aload (k := 5) dX3_readItems_5 rfl ?_
  refine ab_tlen (v := iI 2) dX3_readItems_7 (by decide) (by decide) ?_
  refine z_icmp_ge (tgt := 43) dX3_readItems_8 (by decide) (by decide) (by decide) (fun c8 => absurd c8 (by decide)) (fun _ => ?_)
  refine ab_iload (k := 0) dX3_readItems_11 rfl ?_
  refine z_iconst dX3_readItems_13 ?_
  refine z_icmp_ge (tgt := 43) dX3_readItems_14 (by decide) (by decide) (by decide) (fun c14 => absurd c14 (by decide)) (fun _ => ?_)
  refine ab_aload_n (k := 1) dX3_readItems_17 rfl rfl ?_
  refine z_getP (b := 8) dX3_readItems_18 fX3_18 rfl rfl rfl ?_
  refine ab_iload (k := 0) dX3_readItems_21 rfl ?_
  refine ab_aload (k := 5) dX3_readItems_23 rfl ?_
  refine ab_iload (k := 0) dX3_readItems_25 rfl ?_
  refine ab_tald dX3_readItems_27 (by decide) (iI_in (n := 2) (by decide) (by decide) (by decide)) ?_
  rw [show (ab_sc 5).getD (iI 1).toNatClampNeg 0 = iI 1 by decide]
  refine z_iast dX3_readItems_28 rfl (by omega) (by omega) ?_
  refine ab_aload_n (k := 1) dX3_readItems_29 rfl rfl ?_
  refine z_getP (b := 9) dX3_readItems_30 fX3_22 rfl rfl rfl ?_
  refine ab_iload (k := 0) dX3_readItems_33 rfl ?_
  refine z_iconst dX3_readItems_35 ?_
  refine z_zast dX3_readItems_36 rfl (by omega) (by omega) (Or.inl rfl) ?_
  refine z_iinc (k := 0) (v := 2) (ls' := [(5, .int (iI 2)), (0, .ref 3), (1, .ref (2000 + 1)), (2, .ref (1000 + 3)), (3, .ref (1000 + 4)), (4, .ref (1000 + 5))]) dX3_readItems_37 rfl rfl (by decide) rfl ?_
  refine ab_goto (tgt := 3) dX3_readItems_40 (by decide) ?_
  refine ab_iload (k := 0) dX3_readItems_3 rfl ?_
  refine ab_aload (k := 5) dX3_readItems_5 rfl ?_
  refine ab_tlen (v := iI 2) dX3_readItems_7 (by decide) (by decide) ?_
  refine z_icmp_ge (tgt := 43) dX3_readItems_8 (by decide) (by decide) (by decide) (fun _ => ?_) (fun c8 => absurd c8 (by decide))
  refine ab_aload_n (k := 1) dX3_readItems_43 rfl rfl ?_
  refine z_getP (b := 1) dX3_readItems_44 fX3_26 rfl rfl rfl ?_
  refine ab_callV (As := []) (rest := []) dX3_readItems_47 lX3_60 rfl (Nat.le_of_ble_eq_true rfl) (Nat.le_of_ble_eq_true rfl) rfl ?_
  obtain ⟨hu, ehu⟩ : ∃ x : ab_H, x = zp (zp (zp (zp h 8 0 3) 9 0 0) 8 1 1) 9 1 0 := ⟨_, rfl⟩
  refine z_h (h' := hu) ehu.symm ?_
  have hsu : sm [8, 9] h hu := by rw [ehu]; exact ((((sm_zp (by decide)).trans (sm_zp (by decide))).trans (sm_zp (by decide))).trans (sm_zp (by decide)))
  have Shu : TL T z hu p := TL_sm Sh hsu (by decide) (by decide)
  have hVu : VH 1 hu (ku 1) := by
    intro m hm
    rw [ehu]
    have hm3 : m < 2 := hm
    rcases (show m = 0 ∨ m = 1 by omega) with rfl | rfl
    · rw [zv_zp_ne (by decide), zv_zp_ne (by decide), zv_zp_ne (by decide), zv_zp_s (by decide)]; rfl
    · rw [zv_zp_ne (by decide), zv_zp_s (by decide)]; rfl
  have hTu : TH 1 hu (fun _ => false) := by
    intro m hm
    rw [ehu]
    have hm3 : m < 2 := hm
    rcases (show m = 0 ∨ m = 1 by omega) with rfl | rfl
    · rw [zv_zp_ne (by decide), zv_zp_ne (by decide), zv_zp_s (by decide)]; rfl
    · rw [zv_zp_s (by decide)]; rfl
  refine c_tstep ht Shu hp (fun l47 sl47 Sl47 => ?_)
  show ab_X (d + 5) mX3_readItems 50 [(5, .int (iI 2)), (0, .ref 3), (1, .ref (2000 + 1)), (2, .ref (1000 + 3)), (3, .ref (1000 + 4)), (4, .ref (1000 + 5))] [] l47 _
  refine z_iconst dX3_readItems_50 ?_
  refine ab_istore (ls' := [(5, .int (iI 0)), (0, .ref 3), (1, .ref (2000 + 1)), (2, .ref (1000 + 3)), (3, .ref (1000 + 4)), (4, .ref (1000 + 5))]) dX3_readItems_51 (by decide) rfl ?_
  refine ab_sub (ls' := [(0, .ref 3), (1, .ref (2000 + 1)), (2, .ref (1000 + 3)), (3, .ref (1000 + 4)), (5, .int (iI 0))]) (ks := [1, 2, 3, 4, 0]) rfl ?_
  have hsm : sm [1, 8, 9] h l47 := (hsu.mono (by decide)).trans (sm189 sl47)
  exact lp_items1 (p0 := p + 1) ht (fun h' p' q v a b b2 c s => K1 h' p' q v a b b2 c (hsm.trans s)) (fun h' w a b s => K0 h' w a b (hsm.trans s)) _ (p + 1) 0 _ _ _ rfl (by omega) sm.refl (by omega) Sl47 (TH_m hTu sl47 (by decide)) (VH_m hVu sl47 (by decide)) (ku_ok (by decide)) rfl
theorem c_items2 {d : Nat} {h : ab_H} {Q : ab_Q} {T : Nat → Int} {z p : Nat}  (ht : tx T z) (Sh : TL T z h p) (hp : p < z) (K1 : ∀ h' p' q v, kit T z 2 2 (fun _ => false) (ku 2) (p + 1) = (-1, q, v) → lk T z p' = q → p + 1 ≤ p' → vOK 2 v → sm [1, 8, 9] h h' → TL T z h' p' → VH 2 h' v → Q none h') (K0 : ∀ h' w, (kit T z 2 2 (fun _ => false) (ku 2) (p + 1)).1 = w → ¬ w = -1 → sm [1, 8, 9] h h' → TD z h' w → (0 ≤ zv h' 8 0 ∧ zv h' 8 0 ≤ 9999) → (0 ≤ zv h' 8 1 ∧ zv h' 8 1 ≤ 9999) → Q none h') : ab_X (d + 5) mX3_readItems 0 (lv_args 0 [.ref 3, .ref (2000 + 2), .ref (1000 + 6), .ref (1000 + 7), .ref (1000 + 8)]) [] h Q := by
  show ab_X (d + 5) mX3_readItems 0 [(0, .ref 3), (1, .ref (2000 + 2)), (2, .ref (1000 + 6)), (3, .ref (1000 + 7)), (4, .ref (1000 + 8))] [] h Q
  have hz := ht.1
  have hpz := Sh.2.2.2.2
  refine z_iconst dX3_readItems_0 ?_
  refine ab_istore (ls' := [(5, .int (iI 0)), (0, .ref 3), (1, .ref (2000 + 2)), (2, .ref (1000 + 6)), (3, .ref (1000 + 7)), (4, .ref (1000 + 8))]) dX3_readItems_1 (by decide) rfl ?_
  refine ab_iload (k := 0) dX3_readItems_3 rfl ?_
  refine ab_aload (k := 5) dX3_readItems_5 rfl ?_
  refine ab_tlen (v := iI 2) dX3_readItems_7 (by decide) (by decide) ?_
  refine z_icmp_ge (tgt := 43) dX3_readItems_8 (by decide) (by decide) (by decide) (fun c8 => absurd c8 (by decide)) (fun _ => ?_)
  refine ab_iload (k := 0) dX3_readItems_11 rfl ?_
  refine z_iconst dX3_readItems_13 ?_
  refine z_icmp_ge (tgt := 43) dX3_readItems_14 (by decide) (by decide) (by decide) (fun c14 => absurd c14 (by decide)) (fun _ => ?_)
  refine ab_aload_n (k := 1) dX3_readItems_17 rfl rfl ?_
  refine z_getP (b := 8) dX3_readItems_18 fX3_18 rfl rfl rfl ?_
  refine ab_iload (k := 0) dX3_readItems_21 rfl ?_
  refine ab_aload (k := 5) dX3_readItems_23 rfl ?_
  refine ab_iload (k := 0) dX3_readItems_25 rfl ?_
  refine ab_tald dX3_readItems_27 (by decide) (iI_in (n := 2) (by decide) (by decide) (by decide)) ?_
  rw [show (ab_sc 8).getD (iI 0).toNatClampNeg 0 = iI 0 by decide]
  refine z_iast dX3_readItems_28 rfl (by omega) (by omega) ?_
  refine ab_aload_n (k := 1) dX3_readItems_29 rfl rfl ?_
  refine z_getP (b := 9) dX3_readItems_30 fX3_22 rfl rfl rfl ?_
  refine ab_iload (k := 0) dX3_readItems_33 rfl ?_
  refine z_iconst dX3_readItems_35 ?_
  refine z_zast dX3_readItems_36 rfl (by omega) (by omega) (Or.inl rfl) ?_
  refine z_iinc (k := 0) (v := 1) (ls' := [(5, .int (iI 1)), (0, .ref 3), (1, .ref (2000 + 2)), (2, .ref (1000 + 6)), (3, .ref (1000 + 7)), (4, .ref (1000 + 8))]) dX3_readItems_37 rfl rfl (by decide) rfl ?_
  refine ab_goto (tgt := 3) dX3_readItems_40 (by decide) ?_
  refine ab_iload (k := 0) dX3_readItems_3 rfl ?_
  refine ab_aload (k := 5) dX3_readItems_5 rfl ?_
  refine ab_tlen (v := iI 2) dX3_readItems_7 (by decide) (by decide) ?_
  refine z_icmp_ge (tgt := 43) dX3_readItems_8 (by decide) (by decide) (by decide) (fun c8 => absurd c8 (by decide)) (fun _ => ?_)
  refine ab_iload (k := 0) dX3_readItems_11 rfl ?_
  refine z_iconst dX3_readItems_13 ?_
  refine z_icmp_ge (tgt := 43) dX3_readItems_14 (by decide) (by decide) (by decide) (fun c14 => absurd c14 (by decide)) (fun _ => ?_)
  refine ab_aload_n (k := 1) dX3_readItems_17 rfl rfl ?_
  refine z_getP (b := 8) dX3_readItems_18 fX3_18 rfl rfl rfl ?_
  refine ab_iload (k := 0) dX3_readItems_21 rfl ?_
  refine ab_aload (k := 5) dX3_readItems_23 rfl ?_
  refine ab_iload (k := 0) dX3_readItems_25 rfl ?_
  refine ab_tald dX3_readItems_27 (by decide) (iI_in (n := 2) (by decide) (by decide) (by decide)) ?_
  rw [show (ab_sc 8).getD (iI 1).toNatClampNeg 0 = iI 1 by decide]
  refine z_iast dX3_readItems_28 rfl (by omega) (by omega) ?_
  refine ab_aload_n (k := 1) dX3_readItems_29 rfl rfl ?_
  refine z_getP (b := 9) dX3_readItems_30 fX3_22 rfl rfl rfl ?_
  refine ab_iload (k := 0) dX3_readItems_33 rfl ?_
  refine z_iconst dX3_readItems_35 ?_
  refine z_zast dX3_readItems_36 rfl (by omega) (by omega) (Or.inl rfl) ?_
  refine z_iinc (k := 0) (v := 2) (ls' := [(5, .int (iI 2)), (0, .ref 3), (1, .ref (2000 + 2)), (2, .ref (1000 + 6)), (3, .ref (1000 + 7)), (4, .ref (1000 + 8))]) dX3_readItems_37 rfl rfl (by decide) rfl ?_
  refine ab_goto (tgt := 3) dX3_readItems_40 (by decide) ?_
  refine ab_iload (k := 0) dX3_readItems_3 rfl ?_
  refine ab_aload (k := 5) dX3_readItems_5 rfl ?_
  refine ab_tlen (v := iI 2) dX3_readItems_7 (by decide) (by decide) ?_
  refine z_icmp_ge (tgt := 43) dX3_readItems_8 (by decide) (by decide) (by decide) (fun _ => ?_) (fun c8 => absurd c8 (by decide))
  refine ab_aload_n (k := 1) dX3_readItems_43 rfl rfl ?_
  refine z_getP (b := 1) dX3_readItems_44 fX3_26 rfl rfl rfl ?_
  refine ab_callV (As := []) (rest := []) dX3_readItems_47 lX3_60 rfl (Nat.le_of_ble_eq_true rfl) (Nat.le_of_ble_eq_true rfl) rfl ?_
  obtain ⟨hu, ehu⟩ : ∃ x : ab_H, x = zp (zp (zp (zp h 8 0 0) 9 0 0) 8 1 1) 9 1 0 := ⟨_, rfl⟩
  refine z_h (h' := hu) ehu.symm ?_
  have hsu : sm [8, 9] h hu := by rw [ehu]; exact ((((sm_zp (by decide)).trans (sm_zp (by decide))).trans (sm_zp (by decide))).trans (sm_zp (by decide)))
  have Shu : TL T z hu p := TL_sm Sh hsu (by decide) (by decide)
  have hVu : VH 2 hu (ku 2) := by
    intro m hm
    rw [ehu]
    have hm3 : m < 2 := hm
    rcases (show m = 0 ∨ m = 1 by omega) with rfl | rfl
    · rw [zv_zp_ne (by decide), zv_zp_ne (by decide), zv_zp_ne (by decide), zv_zp_s (by decide)]; rfl
    · rw [zv_zp_ne (by decide), zv_zp_s (by decide)]; rfl
  have hTu : TH 2 hu (fun _ => false) := by
    intro m hm
    rw [ehu]
    have hm3 : m < 2 := hm
    rcases (show m = 0 ∨ m = 1 by omega) with rfl | rfl
    · rw [zv_zp_ne (by decide), zv_zp_ne (by decide), zv_zp_s (by decide)]; rfl
    · rw [zv_zp_s (by decide)]; rfl
  refine c_tstep ht Shu hp (fun l47 sl47 Sl47 => ?_)
  show ab_X (d + 5) mX3_readItems 50 [(5, .int (iI 2)), (0, .ref 3), (1, .ref (2000 + 2)), (2, .ref (1000 + 6)), (3, .ref (1000 + 7)), (4, .ref (1000 + 8))] [] l47 _
  refine z_iconst dX3_readItems_50 ?_
  refine ab_istore (ls' := [(5, .int (iI 0)), (0, .ref 3), (1, .ref (2000 + 2)), (2, .ref (1000 + 6)), (3, .ref (1000 + 7)), (4, .ref (1000 + 8))]) dX3_readItems_51 (by decide) rfl ?_
  refine ab_sub (ls' := [(0, .ref 3), (1, .ref (2000 + 2)), (2, .ref (1000 + 6)), (3, .ref (1000 + 7)), (5, .int (iI 0))]) (ks := [1, 2, 3, 4, 0]) rfl ?_
  have hsm : sm [1, 8, 9] h l47 := (hsu.mono (by decide)).trans (sm189 sl47)
  exact lp_items2 (p0 := p + 1) ht (fun h' p' q v a b b2 c s => K1 h' p' q v a b b2 c (hsm.trans s)) (fun h' w a b s => K0 h' w a b (hsm.trans s)) _ (p + 1) 0 _ _ _ rfl (by omega) sm.refl (by omega) Sl47 (TH_m hTu sl47 (by decide)) (VH_m hVu sl47 (by decide)) (ku_ok (by decide)) rfl
