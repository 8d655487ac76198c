/-! THE CLASS'S TAPE, as a reader stands on it: alive (TL) at a place, or behind a fault (TD) -/
def TL (T : Nat → Int) (z : Nat) (h : ab_H) (p : Nat) : Prop := zv h 1 1 = (z : Int) ∧ zv h 1 2 = (p : Int) ∧ zv h 1 3 = -1 ∧ (∀ i, i < z → zv h 2 i = T i) ∧ p ≤ z
def TD (z : Nat) (h : ab_H) (w : Int) : Prop := zv h 1 1 = (z : Int) ∧ (0 ≤ zv h 1 2 ∧ zv h 1 2 ≤ z) ∧ zv h 1 3 = w ∧ ¬ w = -1
theorem TL_at {T : Nat → Int} {z p q : Nat} {h : ab_H} {x : Int} (S : TL T z h p) (hz : z ≤ 160) (hx : x = (q : Int)) (hq : q ≤ z) : TL T z (zp h 1 2 x) q :=
  ⟨by rw [zv_zp_ne (by decide)]; exact S.1, by rw [zv_zp_s (by omega)]; exact hx, by rw [zv_zp_ne (by decide)]; exact S.2.2.1, fun i hi => by rw [zv_zp_a (by decide)]; exact S.2.2.2.1 i hi, hq⟩
theorem TD_at {z : Nat} {h : ab_H} {w q : Int} (S : TD z h w) (hz : z ≤ 160) (hq : 0 ≤ q ∧ q ≤ z) : TD z (zp h 1 2 q) w :=
  ⟨by rw [zv_zp_ne (by decide)]; exact S.1, by rw [zv_zp_s (by omega)]; exact hq, by rw [zv_zp_ne (by decide)]; exact S.2.2.1, S.2.2.2⟩
theorem TL_bad {T : Nat → Int} {z p : Nat} {h : ab_H} {w : Int} (S : TL T z h p) (hw : 0 ≤ w ∧ w ≤ 1000) : TD z (zp h 1 3 w) w :=
  ⟨by rw [zv_zp_ne (by decide)]; exact S.1, by rw [zv_zp_ne (by decide), S.2.1]; have := S.2.2.2.2; omega, zv_zp_s (by omega), by omega⟩
theorem TL_sm {T : Nat → Int} {z p : Nat} {h h' : ab_H} {l : List Nat} (S : TL T z h p) (s : sm l h h') (h1 : 1 ∉ l) (h2 : 2 ∉ l) : TL T z h' p := ⟨(s.1 1 1 h1).trans S.1, (s.1 1 2 h1).trans S.2.1, (s.1 1 3 h1).trans S.2.2.1, fun i hi => (s.1 2 i h2).trans (S.2.2.2.1 i hi), S.2.2.2.2⟩
theorem TD_sm {z : Nat} {h h' : ab_H} {w : Int} {l : List Nat} (S : TD z h w) (s : sm l h h') (h1 : 1 ∉ l) : TD z h' w := ⟨(s.1 1 1 h1).trans S.1, by rw [s.1 1 2 h1]; exact S.2.1, (s.1 1 3 h1).trans S.2.2.1, S.2.2.2⟩
theorem lp_tlook {d : Nat} {Q : ab_Q} {h0 : ab_H} {T : Nat → Int} {z p0 : Nat} (ht : tx T z) (K : ∀ h', sm [1] h0 h' → TL T z h' (lk T z p0) → Q (some (.int (iI (sg T z p0)))) h') : ∀ (nn : Nat) (p : Nat) (h : ab_H), z - p = nn → (sm [1] h0 h) → (TL T z h p) → (lk T z p = lk T z p0) → ab_X d mX10_look 0 [(0, .ref 1)] [] h Q := by
  intro nn
  induction nn using Nat.strongRecOn with
  | ind nn ih =>
  intro p h hnn hS S hp
  have hz := ht.1
  have hpz := S.2.2.2.2
  refine ab_aload_n (k := 0) dX10_look_0 rfl rfl ?_
  refine z_getI dX10_look_1 fX10_19 rfl (Or.inl rfl) ?_
  refine z_is (y := (p : Int)) S.2.1 ?_
  refine ab_aload_n (k := 0) dX10_look_4 rfl rfl ?_
  refine z_getI dX10_look_5 fX10_15 rfl (Or.inl rfl) ?_
  refine z_is (y := (z : Int)) S.1 ?_
  refine z_icmp_ge (tgt := 38) dX10_look_8 (by decide) (by omega) (by omega) (fun c8 => ?_) (fun c8 => ?_)
  · skip
    refine ab_aload_n (k := 0) dX10_look_38 rfl rfl ?_
    refine z_getI dX10_look_39 fX10_22 rfl (Or.inl rfl) ?_
    refine z_is (y := (-1)) S.2.2.1 ?_
    refine z_iconst dX10_look_42 ?_
    refine z_icmp_ne (tgt := 69) dX10_look_43 (by decide) (by decide) (by decide) (fun c43 => absurd c43 (by decide)) (fun _ => ?_)
    refine ab_aload_n (k := 0) dX10_look_46 rfl rfl ?_
    refine z_getI dX10_look_47 fX10_19 rfl (Or.inl rfl) ?_
    refine z_is (y := (p : Int)) S.2.1 ?_
    refine ab_aload_n (k := 0) dX10_look_50 rfl rfl ?_
    refine z_getI dX10_look_51 fX10_15 rfl (Or.inl rfl) ?_
    refine z_is (y := (z : Int)) S.1 ?_
    refine z_icmp_ge (tgt := 69) dX10_look_54 (by decide) (by omega) (by omega) (fun c54 => ?_) (fun c54 => ?_)
    · skip
      refine z_iconst dX10_look_69 ?_
      refine z_iret dX10_look_70 rfl ?_
      have e := lk_n (T := T) (z := z) (p := p) (by omega)
      have e2 : sg T z p0 = sg T z p := by unfold sg; rw [hp]
      rw [← hp, e, e2] at K
      first
      | (rw [show sg T z p = T p by unfold sg; rw [e, if_pos (by omega)]] at K; exact K h hS S)
      | (rw [show sg T z p = -1 by unfold sg; rw [e, if_neg (by omega)]] at K; exact K h hS S)
    · skip
      refine ab_aload_n (k := 0) dX10_look_57 rfl rfl ?_
      refine z_getP (b := 2) dX10_look_58 fX10_9 rfl rfl rfl ?_
      refine ab_aload_n (k := 0) dX10_look_61 rfl rfl ?_
      refine z_getI dX10_look_62 fX10_19 rfl (Or.inl rfl) ?_
      refine z_is (y := (p : Int)) S.2.1 ?_
      refine z_iald dX10_look_65 rfl (by omega) (by omega) ?_
      simp only [Int.toNat_natCast]
      refine z_is (y := T p) (S.2.2.2.1 p (by omega)) ?_
      have hT := ht.2 p (by omega)
      refine ab_goto (tgt := 70) dX10_look_66 (by decide) ?_
      refine z_iret dX10_look_70 rfl ?_
      have e := lk_n (T := T) (z := z) (p := p) (by omega)
      have e2 : sg T z p0 = sg T z p := by unfold sg; rw [hp]
      rw [← hp, e, e2] at K
      first
      | (rw [show sg T z p = T p by unfold sg; rw [e, if_pos (by omega)]] at K; exact K h hS S)
      | (rw [show sg T z p = -1 by unfold sg; rw [e, if_neg (by omega)]] at K; exact K h hS S)
  · skip
    refine ab_aload_n (k := 0) dX10_look_11 rfl rfl ?_
    refine z_getP (b := 2) dX10_look_12 fX10_9 rfl rfl rfl ?_
    refine ab_aload_n (k := 0) dX10_look_15 rfl rfl ?_
    refine z_getI dX10_look_16 fX10_19 rfl (Or.inl rfl) ?_
    refine z_is (y := (p : Int)) S.2.1 ?_
    refine z_iald dX10_look_19 rfl (by omega) (by omega) ?_
    simp only [Int.toNat_natCast]
    refine z_is (y := T p) (S.2.2.2.1 p (by omega)) ?_
    have hT := ht.2 p (by omega)
    refine z_bipush dX10_look_20 (by decide) ?_
    refine z_icmp_ne (tgt := 38) dX10_look_22 (by decide) (by omega) (by decide) (fun c22 => ?_) (fun c22 => ?_)
    · skip
      refine ab_aload_n (k := 0) dX10_look_38 rfl rfl ?_
      refine z_getI dX10_look_39 fX10_22 rfl (Or.inl rfl) ?_
      refine z_is (y := (-1)) S.2.2.1 ?_
      refine z_iconst dX10_look_42 ?_
      refine z_icmp_ne (tgt := 69) dX10_look_43 (by decide) (by decide) (by decide) (fun c43 => absurd c43 (by decide)) (fun _ => ?_)
      refine ab_aload_n (k := 0) dX10_look_46 rfl rfl ?_
      refine z_getI dX10_look_47 fX10_19 rfl (Or.inl rfl) ?_
      refine z_is (y := (p : Int)) S.2.1 ?_
      refine ab_aload_n (k := 0) dX10_look_50 rfl rfl ?_
      refine z_getI dX10_look_51 fX10_15 rfl (Or.inl rfl) ?_
      refine z_is (y := (z : Int)) S.1 ?_
      refine z_icmp_ge (tgt := 69) dX10_look_54 (by decide) (by omega) (by omega) (fun c54 => ?_) (fun c54 => ?_)
      · skip
        refine z_iconst dX10_look_69 ?_
        refine z_iret dX10_look_70 rfl ?_
        have e := lk_n (T := T) (z := z) (p := p) (by omega)
        have e2 : sg T z p0 = sg T z p := by unfold sg; rw [hp]
        rw [← hp, e, e2] at K
        first
        | (rw [show sg T z p = T p by unfold sg; rw [e, if_pos (by omega)]] at K; exact K h hS S)
        | (rw [show sg T z p = -1 by unfold sg; rw [e, if_neg (by omega)]] at K; exact K h hS S)
      · skip
        refine ab_aload_n (k := 0) dX10_look_57 rfl rfl ?_
        refine z_getP (b := 2) dX10_look_58 fX10_9 rfl rfl rfl ?_
        refine ab_aload_n (k := 0) dX10_look_61 rfl rfl ?_
        refine z_getI dX10_look_62 fX10_19 rfl (Or.inl rfl) ?_
        refine z_is (y := (p : Int)) S.2.1 ?_
        refine z_iald dX10_look_65 rfl (by omega) (by omega) ?_
        simp only [Int.toNat_natCast]
        refine z_is (y := T p) (S.2.2.2.1 p (by omega)) ?_
        have hT := ht.2 p (by omega)
        refine ab_goto (tgt := 70) dX10_look_66 (by decide) ?_
        refine z_iret dX10_look_70 rfl ?_
        have e := lk_n (T := T) (z := z) (p := p) (by omega)
        have e2 : sg T z p0 = sg T z p := by unfold sg; rw [hp]
        rw [← hp, e, e2] at K
        first
        | (rw [show sg T z p = T p by unfold sg; rw [e, if_pos (by omega)]] at K; exact K h hS S)
        | (rw [show sg T z p = -1 by unfold sg; rw [e, if_neg (by omega)]] at K; exact K h hS S)
    · skip
      refine ab_aload_n (k := 0) dX10_look_25 rfl rfl ?_
      refine ab_dup dX10_look_26 rfl ?_
      refine z_getI dX10_look_27 fX10_19 rfl (Or.inl rfl) ?_
      refine z_is (y := (p : Int)) S.2.1 ?_
      refine z_iconst dX10_look_30 ?_
      refine z_iadd dX10_look_31 ?_
      refine z_putI dX10_look_32 fX10_19 rfl rfl ?_
      refine ab_goto (tgt := 0) dX10_look_35 (by decide) ?_
      refine ab_sub (ls' := [(0, .ref 1)]) (ks := [0]) rfl ?_
      exact ih _ (by omega) (p + 1) _ rfl (hS.trans (sm_zp (by decide))) (TL_at S hz (by omega) (by omega)) (by rw [← hp]; exact (lk_s ⟨by omega, by omega⟩).symm)
theorem c_tlook {d : Nat} {h : ab_H} {Q : ab_Q} {T : Nat → Int} {z p : Nat} (ht : tx T z) (S : TL T z h p) (K : ∀ h', sm [1] h h' → TL T z h' (lk T z p) → Q (some (.int (iI (sg T z p)))) h') : ab_X d mX10_look 0 (lv_args 0 [.ref 1]) [] h Q := by
  exact lp_tlook ht K _ p h rfl sm.refl S rfl
theorem lp_dlook {d : Nat} {Q : ab_Q} {h0 : ab_H} {z : Nat} {w : Int} (hz : z ≤ 160) (hw : inR w) (K : ∀ h', sm [1] h0 h' → TD z h' w → Q (some (.int (iI (-1)))) h') : ∀ (nn : Nat) (p : Nat) (h : ab_H), z - p = nn → (zv h 1 2 = (p : Int)) → (sm [1] h0 h) → (TD z h w) → ab_X d mX10_look 0 [(0, .ref 1)] [] h Q := by
  intro nn
  induction nn using Nat.strongRecOn with
  | ind nn ih =>
  intro p h hnn hp hS S
  have hpz := S.2.1
  refine ab_aload_n (k := 0) dX10_look_0 rfl rfl ?_
  refine z_getI dX10_look_1 fX10_19 rfl (Or.inl rfl) ?_
  refine z_is (y := (p : Int)) hp ?_
  refine ab_aload_n (k := 0) dX10_look_4 rfl rfl ?_
  refine z_getI dX10_look_5 fX10_15 rfl (Or.inl rfl) ?_
  refine z_is (y := (z : Int)) S.1 ?_
  refine z_icmp_ge (tgt := 38) dX10_look_8 (by decide) (by omega) (by omega) (fun c8 => ?_) (fun c8 => ?_)
  · skip
    refine ab_aload_n (k := 0) dX10_look_38 rfl rfl ?_
    refine z_getI dX10_look_39 fX10_22 rfl (Or.inl rfl) ?_
    refine z_is (y := w) S.2.2.1 ?_
    refine z_iconst dX10_look_42 ?_
    refine z_icmp_ne (tgt := 69) dX10_look_43 (by decide) (by omega) (by decide) (fun c43 => ?_) (fun c43 => absurd c43 (fun q => S.2.2.2 q))
    refine z_iconst dX10_look_69 ?_
    refine z_iret dX10_look_70 rfl ?_
    exact K h hS S
  · skip
    refine ab_aload_n (k := 0) dX10_look_11 rfl rfl ?_
    refine z_getP (b := 2) dX10_look_12 fX10_9 rfl rfl rfl ?_
    refine ab_aload_n (k := 0) dX10_look_15 rfl rfl ?_
    refine z_getI dX10_look_16 fX10_19 rfl (Or.inl rfl) ?_
    refine z_is (y := (p : Int)) hp ?_
    refine z_iald dX10_look_19 rfl (by omega) (by omega) ?_
    simp only [Int.toNat_natCast]
    have b1 := zv_R h 2 p
    refine z_bipush dX10_look_20 (by decide) ?_
    refine z_icmp_ne (tgt := 38) dX10_look_22 (by decide) (by omega) (by decide) (fun c22 => ?_) (fun c22 => ?_)
    · skip
      refine ab_aload_n (k := 0) dX10_look_38 rfl rfl ?_
      refine z_getI dX10_look_39 fX10_22 rfl (Or.inl rfl) ?_
      refine z_is (y := w) S.2.2.1 ?_
      refine z_iconst dX10_look_42 ?_
      refine z_icmp_ne (tgt := 69) dX10_look_43 (by decide) (by omega) (by decide) (fun c43 => ?_) (fun c43 => absurd c43 (fun q => S.2.2.2 q))
      refine z_iconst dX10_look_69 ?_
      refine z_iret dX10_look_70 rfl ?_
      exact K h hS S
    · skip
      refine ab_aload_n (k := 0) dX10_look_25 rfl rfl ?_
      refine ab_dup dX10_look_26 rfl ?_
      refine z_getI dX10_look_27 fX10_19 rfl (Or.inl rfl) ?_
      refine z_is (y := (p : Int)) hp ?_
      refine z_iconst dX10_look_30 ?_
      refine z_iadd dX10_look_31 ?_
      refine z_putI dX10_look_32 fX10_19 rfl rfl ?_
      refine ab_goto (tgt := 0) dX10_look_35 (by decide) ?_
      refine ab_sub (ls' := [(0, .ref 1)]) (ks := [0]) rfl ?_
      exact ih _ (by omega) (p + 1) _ rfl (by rw [zv_zp_s (by omega)]; omega) (hS.trans (sm_zp (by decide))) (TD_at S hz (by omega))
theorem c_dlook {d : Nat} {h : ab_H} {Q : ab_Q} {z : Nat} {w : Int} (hz : z ≤ 160) (S : TD z h w) (K : ∀ h', sm [1] h h' → TD z h' w → Q (some (.int (iI (-1)))) h') : ab_X d mX10_look 0 (lv_args 0 [.ref 1]) [] h Q := by
  have h1 := S.2.1
  have h2 := zv_R h 1 3
  rw [S.2.2.1] at h2
  exact lp_dlook hz h2 K _ (zv h 1 2).toNat h rfl (by omega) sm.refl S
theorem c_tstep {d : Nat} {h : ab_H} {Q : ab_Q} {T : Nat → Int} {z p : Nat} (ht : tx T z) (S : TL T z h p) (hp : p < z) (K : ∀ h', sm [1] h h' → TL T z h' (p + 1) → Q none h') : ab_X d mX10_step 0 (lv_args 0 [.ref 1]) [] h Q := by
  show ab_X d mX10_step 0 [(0, .ref 1)] [] h Q
  have hz := ht.1
  refine ab_aload_n (k := 0) dX10_step_0 rfl rfl ?_
  refine z_getI dX10_step_1 fX10_19 rfl (Or.inl rfl) ?_
  refine z_is (y := (p : Int)) S.2.1 ?_
  refine ab_aload_n (k := 0) dX10_step_4 rfl rfl ?_
  refine z_getI dX10_step_5 fX10_15 rfl (Or.inl rfl) ?_
  refine z_is (y := (z : Int)) S.1 ?_
  refine z_icmp_ge (tgt := 21) dX10_step_8 (by decide) (by omega) (by omega) (fun c8 => ?_) (fun c8 => ?_)
  · skip
    refine z_vret dX10_step_21 rfl ?_
    first | exact K _ (sm_zp (by decide)) (TL_at S hz (by omega) (by omega)) | (exfalso; omega)
  · skip
    refine ab_aload_n (k := 0) dX10_step_11 rfl rfl ?_
    refine ab_dup dX10_step_12 rfl ?_
    refine z_getI dX10_step_13 fX10_19 rfl (Or.inl rfl) ?_
    refine z_is (y := (p : Int)) S.2.1 ?_
    refine z_iconst dX10_step_16 ?_
    refine z_iadd dX10_step_17 ?_
    refine z_putI dX10_step_18 fX10_19 rfl rfl ?_
    refine z_vret dX10_step_21 rfl ?_
    first | exact K _ (sm_zp (by decide)) (TL_at S hz (by omega) (by omega)) | (exfalso; omega)
theorem c_dstep {d : Nat} {h : ab_H} {Q : ab_Q} {z : Nat} {w : Int} (hz : z ≤ 160) (S : TD z h w) (K : ∀ h', sm [1] h h' → TD z h' w → Q none h') : ab_X d mX10_step 0 (lv_args 0 [.ref 1]) [] h Q := by
  show ab_X d mX10_step 0 [(0, .ref 1)] [] h Q
  have hpz := S.2.1
  refine ab_aload_n (k := 0) dX10_step_0 rfl rfl ?_
  refine z_getI dX10_step_1 fX10_19 rfl (Or.inl rfl) ?_
  have b1 := zv_R h 1 2
  refine ab_aload_n (k := 0) dX10_step_4 rfl rfl ?_
  refine z_getI dX10_step_5 fX10_15 rfl (Or.inl rfl) ?_
  refine z_is (y := (z : Int)) S.1 ?_
  refine z_icmp_ge (tgt := 21) dX10_step_8 (by decide) (by omega) (by omega) (fun c8 => ?_) (fun c8 => ?_)
  · skip
    refine z_vret dX10_step_21 rfl ?_
    first | exact K _ (sm_zp (by decide)) (TD_at S hz (by omega)) | exact K _ sm.refl S
  · skip
    refine ab_aload_n (k := 0) dX10_step_11 rfl rfl ?_
    refine ab_dup dX10_step_12 rfl ?_
    refine z_getI dX10_step_13 fX10_19 rfl (Or.inl rfl) ?_
    have b2 := zv_R h 1 2
    refine z_iconst dX10_step_16 ?_
    refine z_iadd dX10_step_17 ?_
    refine z_putI dX10_step_18 fX10_19 rfl rfl ?_
    refine z_vret dX10_step_21 rfl ?_
    first | exact K _ (sm_zp (by decide)) (TD_at S hz (by omega)) | exact K _ sm.refl S
theorem c_trefuse {d : Nat} {h : ab_H} {Q : ab_Q} {T : Nat → Int} {z p : Nat} (ht : tx T z) (S : TL T z h p) (hk : lk T z p = p) (K : ∀ h', sm [1] h h' → TD z h' ((lk T z p : Nat) : Int) → Q none h') : ab_X d mX10_refuse 0 (lv_args 0 [.ref 1]) [] h Q := by
  show ab_X d mX10_refuse 0 [(0, .ref 1)] [] h Q
  have hz := ht.1
  have hpz := S.2.2.2.2
  rw [hk] at K
  refine ab_aload_n (k := 0) dX10_refuse_0 rfl rfl ?_
  refine z_getI dX10_refuse_1 fX10_22 rfl (Or.inl rfl) ?_
  refine z_is (y := (-1)) S.2.2.1 ?_
  refine z_iconst dX10_refuse_4 ?_
  refine z_icmp_ne (tgt := 16) dX10_refuse_5 (by decide) (by decide) (by decide) (fun c5 => absurd c5 (by decide)) (fun _ => ?_)
  refine ab_aload_n (k := 0) dX10_refuse_8 rfl rfl ?_
  refine ab_aload_n (k := 0) dX10_refuse_9 rfl rfl ?_
  refine z_getI dX10_refuse_10 fX10_19 rfl (Or.inl rfl) ?_
  refine z_is (y := (p : Int)) S.2.1 ?_
  refine z_putI dX10_refuse_13 fX10_22 rfl rfl ?_
  refine z_vret dX10_refuse_16 rfl ?_
  first | exact K _ (sm_zp (by decide)) (TL_bad S (by omega)) | (exfalso; omega)
theorem c_tlast {d : Nat} {h : ab_H} {Q : ab_Q} {T : Nat → Int} {z p : Nat} (ht : tx T z) (S : TL T z h p) (hp : 1 ≤ p) (K : ∀ h', sm [1] h h' → TD z h' ((p : Int) - 1) → Q none h') : ab_X d mX10_refuseLastDigit 0 (lv_args 0 [.ref 1]) [] h Q := by
  show ab_X d mX10_refuseLastDigit 0 [(0, .ref 1)] [] h Q
  have hz := ht.1
  have hpz := S.2.2.2.2
  refine ab_aload_n (k := 0) dX10_refuseLastDigit_0 rfl rfl ?_
  refine z_getI dX10_refuseLastDigit_1 fX10_22 rfl (Or.inl rfl) ?_
  refine z_is (y := (-1)) S.2.2.1 ?_
  refine z_iconst dX10_refuseLastDigit_4 ?_
  refine z_icmp_ne (tgt := 18) dX10_refuseLastDigit_5 (by decide) (by decide) (by decide) (fun c5 => absurd c5 (by decide)) (fun _ => ?_)
  refine ab_aload_n (k := 0) dX10_refuseLastDigit_8 rfl rfl ?_
  refine ab_aload_n (k := 0) dX10_refuseLastDigit_9 rfl rfl ?_
  refine z_getI dX10_refuseLastDigit_10 fX10_19 rfl (Or.inl rfl) ?_
  refine z_is (y := (p : Int)) S.2.1 ?_
  refine z_iconst dX10_refuseLastDigit_13 ?_
  refine z_isub dX10_refuseLastDigit_14 ?_
  refine z_putI dX10_refuseLastDigit_15 fX10_22 rfl rfl ?_
  refine z_vret dX10_refuseLastDigit_18 rfl ?_
  first | exact K _ (sm_zp (by decide)) (TL_bad S (by omega)) | (exfalso; omega)
theorem c_drefuse {d : Nat} {h : ab_H} {Q : ab_Q} {z : Nat} {w : Int} (hz : z ≤ 160) (S : TD z h w) (K : ∀ h', sm [1] h h' → TD z h' w → Q none h') : ab_X d mX10_refuse 0 (lv_args 0 [.ref 1]) [] h Q := by
  show ab_X d mX10_refuse 0 [(0, .ref 1)] [] h Q
  have hpz := S.2.1
  have hw := zv_R h 1 3
  rw [S.2.2.1] at hw
  have hw1 := S.2.2.2
  refine ab_aload_n (k := 0) dX10_refuse_0 rfl rfl ?_
  refine z_getI dX10_refuse_1 fX10_22 rfl (Or.inl rfl) ?_
  refine z_is (y := w) S.2.2.1 ?_
  refine z_iconst dX10_refuse_4 ?_
  refine z_icmp_ne (tgt := 16) dX10_refuse_5 (by decide) (by omega) (by decide) (fun c5 => ?_) (fun c5 => ?_)
  · skip
    refine z_vret dX10_refuse_16 rfl ?_
    first | exact K _ sm.refl S | (exfalso; omega)
  · skip
    refine ab_aload_n (k := 0) dX10_refuse_8 rfl rfl ?_
    refine ab_aload_n (k := 0) dX10_refuse_9 rfl rfl ?_
    refine z_getI dX10_refuse_10 fX10_19 rfl (Or.inl rfl) ?_
    have b1 := zv_R h 1 2
    refine z_putI dX10_refuse_13 fX10_22 rfl rfl ?_
    refine z_vret dX10_refuse_16 rfl ?_
    first | exact K _ sm.refl S | (exfalso; omega)
theorem c_dlast {d : Nat} {h : ab_H} {Q : ab_Q} {z : Nat} {w : Int} (hz : z ≤ 160) (S : TD z h w) (K : ∀ h', sm [1] h h' → TD z h' w → Q none h') : ab_X d mX10_refuseLastDigit 0 (lv_args 0 [.ref 1]) [] h Q := by
  show ab_X d mX10_refuseLastDigit 0 [(0, .ref 1)] [] h Q
  have hpz := S.2.1
  have hw := zv_R h 1 3
  rw [S.2.2.1] at hw
  have hw1 := S.2.2.2
  refine ab_aload_n (k := 0) dX10_refuseLastDigit_0 rfl rfl ?_
  refine z_getI dX10_refuseLastDigit_1 fX10_22 rfl (Or.inl rfl) ?_
  refine z_is (y := w) S.2.2.1 ?_
  refine z_iconst dX10_refuseLastDigit_4 ?_
  refine z_icmp_ne (tgt := 18) dX10_refuseLastDigit_5 (by decide) (by omega) (by decide) (fun c5 => ?_) (fun c5 => ?_)
  · skip
    refine z_vret dX10_refuseLastDigit_18 rfl ?_
    first | exact K _ sm.refl S | (exfalso; omega)
  · skip
    refine ab_aload_n (k := 0) dX10_refuseLastDigit_8 rfl rfl ?_
    refine ab_aload_n (k := 0) dX10_refuseLastDigit_9 rfl rfl ?_
    refine z_getI dX10_refuseLastDigit_10 fX10_19 rfl (Or.inl rfl) ?_
    have b1 := zv_R h 1 2
    refine z_iconst dX10_refuseLastDigit_13 ?_
    refine z_isub dX10_refuseLastDigit_14 ?_
    refine z_putI dX10_refuseLastDigit_15 fX10_22 rfl rfl ?_
    refine z_vret dX10_refuseLastDigit_18 rfl ?_
    first | exact K _ sm.refl S | (exfalso; omega)
theorem c_texpect {d : Nat} {h : ab_H} {Q : ab_Q} {T : Nat → Int} {z p : Nat} {c : Int} (ht : tx T z) (hc : 0 ≤ c ∧ c ≤ 1000) (Sh : TL T z h p) (k1 : sg T z p = c → ∀ h', sm [1] h h' → TL T z h' (lk T z p + 1) → Q none h') (k0 : ¬ sg T z p = c → ∀ h', sm [1] h h' → TD z h' ((lk T z p : Nat) : Int) → Q none h') : ab_X (d + 2) mX10_expect 0 (lv_args 0 [.ref 1, .int (iI c)]) [] h Q := by
  show ab_X (d + 2) mX10_expect 0 [(0, .ref 1), (1, .int (iI c))] [] h Q
  have hz := ht.1
  refine ab_aload_n (k := 0) dX10_expect_0 rfl rfl ?_
  refine ab_callV (As := []) (rest := []) dX10_expect_1 lX10_25 rfl (Nat.le_of_ble_eq_true rfl) (Nat.le_of_ble_eq_true rfl) rfl ?_
  refine c_tlook ht Sh (fun l1 sl1 Sl1 => ?_)
  have y1 := sg_b ht p
  show ab_X (d + 2) mX10_expect 4 [(0, .ref 1), (1, .int (iI c))] [.int (iI (sg T z p))] l1 _
  refine ab_iload_n (k := 1) dX10_expect_4 rfl rfl ?_
  refine z_icmp_ne (tgt := 15) dX10_expect_5 (by decide) (by omega) (by omega) (fun c5 => ?_) (fun c5 => ?_)
  · skip
    refine ab_aload_n (k := 0) dX10_expect_15 rfl rfl ?_
    refine ab_callV (As := []) (rest := []) dX10_expect_16 lX10_32 rfl (Nat.le_of_ble_eq_true rfl) (Nat.le_of_ble_eq_true rfl) rfl ?_
    refine c_trefuse ht Sl1 (lk_lk _ _ _) (fun e16 se16 Se16 => ?_)
    show ab_X (d + 2) mX10_expect 19 [(0, .ref 1), (1, .int (iI c))] [] e16 _
    refine z_vret dX10_expect_19 rfl ?_
    first | exact k1 (by omega) _ (sl1.trans sl9) Sl9 | (rw [lk_lk] at Se16; exact k0 (by omega) _ (sl1.trans se16) Se16)
  · skip
    refine ab_aload_n (k := 0) dX10_expect_8 rfl rfl ?_
    have hin := sg_in (T := T) (z := z) (p := p) (by omega)
    refine ab_callV (As := []) (rest := []) dX10_expect_9 lX10_29 rfl (Nat.le_of_ble_eq_true rfl) (Nat.le_of_ble_eq_true rfl) rfl ?_
    refine c_tstep ht Sl1 (by omega) (fun l9 sl9 Sl9 => ?_)
    show ab_X (d + 2) mX10_expect 12 [(0, .ref 1), (1, .int (iI c))] [] l9 _
    refine ab_goto (tgt := 19) dX10_expect_12 (by decide) ?_
    refine z_vret dX10_expect_19 rfl ?_
    first | exact k1 (by omega) _ (sl1.trans sl9) Sl9 | (rw [lk_lk] at Se16; exact k0 (by omega) _ (sl1.trans se16) Se16)
theorem c_dexpect {d : Nat} {h : ab_H} {Q : ab_Q} {z : Nat} {w c : Int} (hz : z ≤ 160) (hc : 0 ≤ c ∧ c ≤ 1000) (Seh : TD z h w) (K : ∀ h', sm [1] h h' → TD z h' w → Q none h') : ab_X (d + 2) mX10_expect 0 (lv_args 0 [.ref 1, .int (iI c)]) [] h Q := by
  show ab_X (d + 2) mX10_expect 0 [(0, .ref 1), (1, .int (iI c))] [] h Q
  refine ab_aload_n (k := 0) dX10_expect_0 rfl rfl ?_
  refine ab_callV (As := []) (rest := []) dX10_expect_1 lX10_25 rfl (Nat.le_of_ble_eq_true rfl) (Nat.le_of_ble_eq_true rfl) rfl ?_
  refine c_dlook hz Seh (fun e1 se1 Se1 => ?_)
  show ab_X (d + 2) mX10_expect 4 [(0, .ref 1), (1, .int (iI c))] [.int (iI (-1))] e1 _
  refine ab_iload_n (k := 1) dX10_expect_4 rfl rfl ?_
  refine z_icmp_ne (tgt := 15) dX10_expect_5 (by decide) (by decide) (by omega) (fun c5 => ?_) (fun c5 => absurd c5 (by omega))
  refine ab_aload_n (k := 0) dX10_expect_15 rfl rfl ?_
  refine ab_callV (As := []) (rest := []) dX10_expect_16 lX10_32 rfl (Nat.le_of_ble_eq_true rfl) (Nat.le_of_ble_eq_true rfl) rfl ?_
  refine c_drefuse hz Se1 (fun e16 se16 Se16 => ?_)
  show ab_X (d + 2) mX10_expect 19 [(0, .ref 1), (1, .int (iI c))] [] e16 _
  refine z_vret dX10_expect_19 rfl ?_
  exact K _ (se1.trans se16) Se16
theorem c_tonDigit {d : Nat} {h : ab_H} {Q : ab_Q} {T : Nat → Int} {z p : Nat} (ht : tx T z) (S : TL T z h p) (k1 : dg T z p → Q (some (.int (iI 1))) h) (k0 : ¬ dg T z p → Q (some (.int (iI 0))) h) : ab_X d mX10_onDigit 0 (lv_args 0 [.ref 1]) [] h Q := by
  show ab_X d mX10_onDigit 0 [(0, .ref 1)] [] h Q
  have hz := ht.1
  have hpz := S.2.2.2.2
  refine ab_aload_n (k := 0) dX10_onDigit_0 rfl rfl ?_
  refine z_getI dX10_onDigit_1 fX10_19 rfl (Or.inl rfl) ?_
  refine z_is (y := (p : Int)) S.2.1 ?_
  refine ab_aload_n (k := 0) dX10_onDigit_4 rfl rfl ?_
  refine z_getI dX10_onDigit_5 fX10_15 rfl (Or.inl rfl) ?_
  refine z_is (y := (z : Int)) S.1 ?_
  refine z_icmp_ge (tgt := 43) dX10_onDigit_8 (by decide) (by omega) (by omega) (fun c8 => ?_) (fun c8 => ?_)
  · skip
    refine z_iconst dX10_onDigit_43 ?_
    refine z_zret dX10_onDigit_44 rfl (Or.inl rfl) ?_
    first | exact k1 ⟨by omega, by omega, by omega⟩ | exact k0 (fun q => by obtain ⟨q1, q2, q3⟩ := q; omega)
  · skip
    refine ab_aload_n (k := 0) dX10_onDigit_11 rfl rfl ?_
    refine z_getP (b := 2) dX10_onDigit_12 fX10_9 rfl rfl rfl ?_
    refine ab_aload_n (k := 0) dX10_onDigit_15 rfl rfl ?_
    refine z_getI dX10_onDigit_16 fX10_19 rfl (Or.inl rfl) ?_
    refine z_is (y := (p : Int)) S.2.1 ?_
    refine z_iald dX10_onDigit_19 rfl (by omega) (by omega) ?_
    simp only [Int.toNat_natCast]
    refine z_is (y := T p) (S.2.2.2.1 p (by omega)) ?_
    refine z_bipush dX10_onDigit_20 (by decide) ?_
    have hT := ht.2 p (by omega)
    refine z_icmp_lt (tgt := 43) dX10_onDigit_22 (by decide) (by omega) (by decide) (fun c22 => ?_) (fun c22 => ?_)
    · skip
      refine z_iconst dX10_onDigit_43 ?_
      refine z_zret dX10_onDigit_44 rfl (Or.inl rfl) ?_
      first | exact k1 ⟨by omega, by omega, by omega⟩ | exact k0 (fun q => by obtain ⟨q1, q2, q3⟩ := q; omega)
    · skip
      refine ab_aload_n (k := 0) dX10_onDigit_25 rfl rfl ?_
      refine z_getP (b := 2) dX10_onDigit_26 fX10_9 rfl rfl rfl ?_
      refine ab_aload_n (k := 0) dX10_onDigit_29 rfl rfl ?_
      refine z_getI dX10_onDigit_30 fX10_19 rfl (Or.inl rfl) ?_
      refine z_is (y := (p : Int)) S.2.1 ?_
      refine z_iald dX10_onDigit_33 rfl (by omega) (by omega) ?_
      simp only [Int.toNat_natCast]
      refine z_is (y := T p) (S.2.2.2.1 p (by omega)) ?_
      refine z_bipush dX10_onDigit_34 (by decide) ?_
      have hT := ht.2 p (by omega)
      refine z_icmp_gt (tgt := 43) dX10_onDigit_36 (by decide) (by omega) (by decide) (fun c36 => ?_) (fun c36 => ?_)
      · skip
        refine z_iconst dX10_onDigit_43 ?_
        refine z_zret dX10_onDigit_44 rfl (Or.inl rfl) ?_
        first | exact k1 ⟨by omega, by omega, by omega⟩ | exact k0 (fun q => by obtain ⟨q1, q2, q3⟩ := q; omega)
      · skip
        refine z_iconst dX10_onDigit_39 ?_
        refine ab_goto (tgt := 44) dX10_onDigit_40 (by decide) ?_
        refine z_zret dX10_onDigit_44 rfl (Or.inr rfl) ?_
        first | exact k1 ⟨by omega, by omega, by omega⟩ | exact k0 (fun q => by obtain ⟨q1, q2, q3⟩ := q; omega)
theorem lp_number {d : Nat} {Q : ab_Q} {h0 : ab_H} {T : Nat → Int} {z p0 m : Nat} (ht : tx T z) (hm : m ≤ 4) (hd0 : dg T z p0) (k1 : ∀ h', dg T z p0 → ¬ dg T z (nmb T z m p0 0).1 → sm [1] h0 h' → TL T z h' (nmb T z m p0 0).1 → Q (some (.int (iI (nmb T z m p0 0).2))) h') (k0 : ∀ h' v w, dg T z p0 → dg T z (nmb T z m p0 0).1 → w = (((nmb T z m p0 0).1 : Nat) : Int) → 0 ≤ v ∧ v ≤ 9999 → sm [1] h0 h' → TD z h' w → Q (some (.int (iI v))) h') : ∀ (nn : Nat) (p : Nat) (i : Nat) (v : Int) (h : ab_H), m - i = nn → (i ≤ m) → (sm [1] h0 h) → (TL T z h p) → (0 ≤ v ∧ v ≤ 9999) → (i < m → v ≤ 999) → (i < 3 → v ≤ 99) → (i < 2 → v ≤ 9) → (i < 1 → v ≤ 0) → (nmb T z (m - i) p v = nmb T z m p0 0) → ab_X (d + 2) mX10_number 25 [(0, .ref 1), (1, .int (iI (m : Int))), (2, .int (iI v)), (3, .int (iI (i : Int)))] [] h Q := by
  intro nn
  induction nn using Nat.strongRecOn with
  | ind nn ih =>
  intro p i v h hnn hi hs Sh hv hvi hvj hvk hvl hn
  have hz := ht.1
  have hpz := Sh.2.2.2.2
  refine ab_iload_n (k := 3) dX10_number_25 rfl rfl ?_
  refine ab_iload_n (k := 1) dX10_number_26 rfl rfl ?_
  refine z_icmp_ge (tgt := 71) dX10_number_27 (by decide) (by omega) (by omega) (fun c27 => ?_) (fun c27 => ?_)
  · skip
    refine ab_aload_n (k := 0) dX10_number_71 rfl rfl ?_
    refine ab_callV (As := []) (rest := []) dX10_number_72 lX10_35 rfl (Nat.le_of_ble_eq_true rfl) (Nat.le_of_ble_eq_true rfl) rfl ?_
    refine c_tonDigit ht Sh (fun g72 => ?_) (fun g72 => ?_)
    · skip
      show ab_X (d + 2) mX10_number 75 [(0, .ref 1), (1, .int (iI (m : Int))), (2, .int (iI v)), (3, .int (iI (i : Int)))] [.int (iI 1)] h _
      refine z_if_eq (tgt := 82) dX10_number_75 (by decide) (by decide) (fun c75 => absurd c75 (by decide)) (fun _ => ?_)
      refine ab_aload_n (k := 0) dX10_number_78 rfl rfl ?_
      refine ab_callV (As := []) (rest := []) dX10_number_79 lX10_32 rfl (Nat.le_of_ble_eq_true rfl) (Nat.le_of_ble_eq_true rfl) rfl ?_
      refine c_trefuse ht Sh (lk_n (by have := g72.2; omega)) (fun e79 se79 Se79 => ?_)
      show ab_X (d + 2) mX10_number 82 [(0, .ref 1), (1, .int (iI (m : Int))), (2, .int (iI v)), (3, .int (iI (i : Int)))] [] e79 _
      refine ab_iload_n (k := 2) dX10_number_82 rfl rfl ?_
      refine z_iret dX10_number_83 rfl ?_
      first
      | exact absurd g72 g31
      | (have e : nmb T z (m - i) p v = (p, v) := by
           first
           | (rw [show m - i = 0 by omega, nmb_0])
           | exact nmb_f (by assumption)
         have e1 : (nmb T z m p0 0).1 = p := by rw [← hn, e]
         have e2 : (nmb T z m p0 0).2 = v := by rw [← hn, e]
         rw [e1, e2] at k1
         rw [e1] at k0
         (rw [lk_n (T := T) (z := z) (p := p) (by have := g72.2; omega)] at Se79; exact k0 _ v _ hd0 g72 rfl hv (hs.trans se79) Se79))
    · skip
      show ab_X (d + 2) mX10_number 75 [(0, .ref 1), (1, .int (iI (m : Int))), (2, .int (iI v)), (3, .int (iI (i : Int)))] [.int (iI 0)] h _
      refine z_if_eq (tgt := 82) dX10_number_75 (by decide) (by decide) (fun _ => ?_) (fun c75 => absurd c75 (by decide))
      refine ab_iload_n (k := 2) dX10_number_82 rfl rfl ?_
      refine z_iret dX10_number_83 rfl ?_
      first
      | exact absurd g72 g31
      | (have e : nmb T z (m - i) p v = (p, v) := by
           first
           | (rw [show m - i = 0 by omega, nmb_0])
           | exact nmb_f (by assumption)
         have e1 : (nmb T z m p0 0).1 = p := by rw [← hn, e]
         have e2 : (nmb T z m p0 0).2 = v := by rw [← hn, e]
         rw [e1, e2] at k1
         rw [e1] at k0
         exact k1 h hd0 (by assumption) hs Sh)
  · skip
    refine ab_aload_n (k := 0) dX10_number_30 rfl rfl ?_
    refine ab_callV (As := []) (rest := []) dX10_number_31 lX10_35 rfl (Nat.le_of_ble_eq_true rfl) (Nat.le_of_ble_eq_true rfl) rfl ?_
    refine c_tonDigit ht Sh (fun g31 => ?_) (fun g31 => ?_)
    · skip
      show ab_X (d + 2) mX10_number 34 [(0, .ref 1), (1, .int (iI (m : Int))), (2, .int (iI v)), (3, .int (iI (i : Int)))] [.int (iI 1)] h _
      refine z_if_eq (tgt := 71) dX10_number_34 (by decide) (by decide) (fun c34 => absurd c34 (by decide)) (fun _ => ?_)
      refine ab_iload_n (k := 2) dX10_number_37 rfl rfl ?_
      refine z_bipush dX10_number_38 (by decide) ?_
      refine z_imul dX10_number_40 ?_
      refine ab_aload_n (k := 0) dX10_number_41 rfl rfl ?_
      refine z_getP (b := 2) dX10_number_42 fX10_9 rfl rfl rfl ?_
      refine ab_aload_n (k := 0) dX10_number_45 rfl rfl ?_
      refine z_getI dX10_number_46 fX10_19 rfl (Or.inl rfl) ?_
      refine z_is (y := (p : Int)) Sh.2.1 ?_
      refine z_iald dX10_number_49 rfl (by omega) (by omega) ?_
      simp only [Int.toNat_natCast]
      refine z_is (y := T p) (Sh.2.2.2.1 p (by omega)) ?_
      refine z_iadd dX10_number_50 ?_
      refine z_bipush dX10_number_51 (by decide) ?_
      refine z_isub dX10_number_53 ?_
      refine ab_istore_n (ls' := [(2, .int (iI (((v * 10) + (T p)) - 48))), (0, .ref 1), (1, .int (iI (m : Int))), (3, .int (iI (i : Int)))]) dX10_number_54 rfl (by decide) rfl ?_
      refine ab_aload_n (k := 1) dX10_number_55 rfl rfl ?_
      refine ab_dup dX10_number_56 rfl ?_
      refine z_getI dX10_number_57 fX10_19 rfl (Or.inl rfl) ?_
      refine z_is (y := (p : Int)) Sh.2.1 ?_
      refine z_iconst dX10_number_60 ?_
      refine z_iadd dX10_number_61 ?_
      refine z_putI dX10_number_62 fX10_19 rfl rfl ?_
      refine z_iinc (k := 3) (v := (i : Int) + 1) (ls' := [(3, .int (iI ((i : Int) + 1))), (2, .int (iI (((v * 10) + (T p)) - 48))), (0, .ref 1), (1, .int (iI (m : Int)))]) dX10_number_65 rfl rfl (by decide) rfl ?_
      refine ab_goto (tgt := 25) dX10_number_68 (by decide) ?_
      refine ab_sub (ls' := [(0, .ref 1), (1, .int (iI (m : Int))), (2, .int (iI (((v * 10) + (T p)) - 48))), (3, .int (iI ((i : Int) + 1)))]) (ks := [2, 3, 1, 0]) rfl ?_
      refine ih _ (by omega) (p + 1) (i + 1) _ _ rfl (by omega) (hs.trans (sm_zp (by decide))) (TL_at Sh hz (by omega) (by omega)) (by omega) (by omega) (by omega) (by omega) (by omega) ?_
      rw [← hn, show m - i = (m - (i + 1)) + 1 by omega, nmb_t (by assumption)]
    · skip
      show ab_X (d + 2) mX10_number 34 [(0, .ref 1), (1, .int (iI (m : Int))), (2, .int (iI v)), (3, .int (iI (i : Int)))] [.int (iI 0)] h _
      refine z_if_eq (tgt := 71) dX10_number_34 (by decide) (by decide) (fun _ => ?_) (fun c34 => absurd c34 (by decide))
      refine ab_aload_n (k := 0) dX10_number_71 rfl rfl ?_
      refine ab_callV (As := []) (rest := []) dX10_number_72 lX10_35 rfl (Nat.le_of_ble_eq_true rfl) (Nat.le_of_ble_eq_true rfl) rfl ?_
      refine c_tonDigit ht Sh (fun g72 => ?_) (fun g72 => ?_)
      · skip
        show ab_X (d + 2) mX10_number 75 [(0, .ref 1), (1, .int (iI (m : Int))), (2, .int (iI v)), (3, .int (iI (i : Int)))] [.int (iI 1)] h _
        refine z_if_eq (tgt := 82) dX10_number_75 (by decide) (by decide) (fun c75 => absurd c75 (by decide)) (fun _ => ?_)
        refine ab_aload_n (k := 0) dX10_number_78 rfl rfl ?_
        refine ab_callV (As := []) (rest := []) dX10_number_79 lX10_32 rfl (Nat.le_of_ble_eq_true rfl) (Nat.le_of_ble_eq_true rfl) rfl ?_
        refine c_trefuse ht Sh (lk_n (by have := g72.2; omega)) (fun e79 se79 Se79 => ?_)
        show ab_X (d + 2) mX10_number 82 [(0, .ref 1), (1, .int (iI (m : Int))), (2, .int (iI v)), (3, .int (iI (i : Int)))] [] e79 _
        refine ab_iload_n (k := 2) dX10_number_82 rfl rfl ?_
        refine z_iret dX10_number_83 rfl ?_
        first
        | exact absurd g72 g31
        | (have e : nmb T z (m - i) p v = (p, v) := by
             first
             | (rw [show m - i = 0 by omega, nmb_0])
             | exact nmb_f (by assumption)
           have e1 : (nmb T z m p0 0).1 = p := by rw [← hn, e]
           have e2 : (nmb T z m p0 0).2 = v := by rw [← hn, e]
           rw [e1, e2] at k1
           rw [e1] at k0
           (rw [lk_n (T := T) (z := z) (p := p) (by have := g72.2; omega)] at Se79; exact k0 _ v _ hd0 g72 rfl hv (hs.trans se79) Se79))
      · skip
        show ab_X (d + 2) mX10_number 75 [(0, .ref 1), (1, .int (iI (m : Int))), (2, .int (iI v)), (3, .int (iI (i : Int)))] [.int (iI 0)] h _
        refine z_if_eq (tgt := 82) dX10_number_75 (by decide) (by decide) (fun _ => ?_) (fun c75 => absurd c75 (by decide))
        refine ab_iload_n (k := 2) dX10_number_82 rfl rfl ?_
        refine z_iret dX10_number_83 rfl ?_
        first
        | exact absurd g72 g31
        | (have e : nmb T z (m - i) p v = (p, v) := by
             first
             | (rw [show m - i = 0 by omega, nmb_0])
             | exact nmb_f (by assumption)
           have e1 : (nmb T z m p0 0).1 = p := by rw [← hn, e]
           have e2 : (nmb T z m p0 0).2 = v := by rw [← hn, e]
           rw [e1, e2] at k1
           rw [e1] at k0
           exact k1 h hd0 (by assumption) hs Sh)
theorem c_tnumber {d : Nat} {h : ab_H} {Q : ab_Q} {T : Nat → Int} {z p : Nat} {m : Nat} (ht : tx T z) (hm : m ≤ 4 ∧ 1 ≤ m) (Sh : TL T z h p) (k1 : ∀ h' q v, pNum T z m (lk T z p) = (-1, q, [(0, v)]) → (lk T z p < q ∧ q ≤ z) → (0 ≤ v ∧ v ≤ 9999) → sm [1] h h' → TL T z h' q → Q (some (.int (iI v))) h') (k0 : ∀ h' v w, (pNum T z m (lk T z p)).1 = w → (0 ≤ v ∧ v ≤ 9999) → sm [1] h h' → TD z h' w → Q (some (.int (iI v))) h') : ab_X (d + 2) mX10_number 0 (lv_args 0 [.ref 1, .int (iI (m : Int))]) [] h Q := by
  show ab_X (d + 2) mX10_number 0 [(0, .ref 1), (1, .int (iI (m : Int)))] [] h Q
  have hz := ht.1
  refine ab_aload_n (k := 0) dX10_number_0 rfl rfl ?_
  refine ab_callV (As := []) (rest := []) dX10_number_1 lX10_25 rfl (Nat.le_of_ble_eq_true rfl) (Nat.le_of_ble_eq_true rfl) rfl ?_
  refine c_tlook ht Sh (fun l1 sl1 Sl1 => ?_)
  have y1 := sg_b ht p
  show ab_X (d + 2) mX10_number 4 [(0, .ref 1), (1, .int (iI (m : Int)))] [.int (iI (sg T z p))] l1 _
  refine z_iconst dX10_number_4 ?_
  refine z_icmp_eq (tgt := 15) dX10_number_5 (by decide) (by omega) (by decide) (fun c5 => ?_) (fun c5 => ?_)
  · skip
    refine ab_aload_n (k := 0) dX10_number_15 rfl rfl ?_
    refine ab_callV (As := []) (rest := []) dX10_number_16 lX10_32 rfl (Nat.le_of_ble_eq_true rfl) (Nat.le_of_ble_eq_true rfl) rfl ?_
    refine c_trefuse ht Sl1 (lk_lk _ _ _) (fun e16 se16 Se16 => ?_)
    show ab_X (d + 2) mX10_number 19 [(0, .ref 1), (1, .int (iI (m : Int)))] [] e16 _
    refine z_iconst dX10_number_19 ?_
    refine z_iret dX10_number_20 rfl ?_
    rw [lk_lk] at Se16
    refine k0 _ 0 _ ?_ (by omega) (sl1.trans se16) Se16
    unfold pNum
    rw [if_neg (show ¬ dg T z (lk T z p) from fun q => by
      first
      | (have := sg_in (T := T) (z := z) (p := p)
         have e3 := sg_at (T := T) (z := z) (p := p) q.1
         have := q.2
         omega)
      | exact absurd q (by assumption))]
    rfl
  · skip
    refine ab_aload_n (k := 0) dX10_number_8 rfl rfl ?_
    refine ab_callV (As := []) (rest := []) dX10_number_9 lX10_35 rfl (Nat.le_of_ble_eq_true rfl) (Nat.le_of_ble_eq_true rfl) rfl ?_
    refine c_tonDigit ht Sl1 (fun g9 => ?_) (fun g9 => ?_)
    · skip
      show ab_X (d + 2) mX10_number 12 [(0, .ref 1), (1, .int (iI (m : Int)))] [.int (iI 1)] l1 _
      refine z_if_ne (tgt := 21) dX10_number_12 (by decide) (by decide) (fun _ => ?_) (fun c12 => absurd c12 (by decide))
      refine z_iconst dX10_number_21 ?_
      refine ab_istore_n (ls' := [(2, .int (iI 0)), (0, .ref 1), (1, .int (iI (m : Int)))]) dX10_number_22 rfl (by decide) rfl ?_
      refine z_iconst dX10_number_23 ?_
      refine ab_istore_n (ls' := [(3, .int (iI 0)), (2, .int (iI 0)), (0, .ref 1), (1, .int (iI (m : Int)))]) dX10_number_24 rfl (by decide) rfl ?_
      refine ab_sub (ls' := [(0, .ref 1), (1, .int (iI (m : Int))), (2, .int (iI 0)), (3, .int (iI 0))]) (ks := [2, 3, 1, 0]) rfl ?_
      have hd0 : dg T z (lk T z p) := by assumption
      have hb := nmb_v (T := T) (z := z) m (lk T z p) 0 1 (by omega)
      refine lp_number ht hm.1 hd0 (p0 := lk T z p) (fun h' a b s S => ?_) (fun h' v w a b e c s S => ?_) _ (lk T z p) 0 0 _ rfl (by omega) sl1 Sl1 (by omega) (by omega) (by omega) (by omega) (by omega) (by rw [Nat.sub_zero])
      · refine k1 _ _ _ ?_ ?_ ?_ s S
        · unfold pNum; rw [if_pos a, if_neg b]
        · obtain ⟨m', rfl⟩ : ∃ m', m = m' + 1 := ⟨m - 1, by omega⟩
          rw [nmb_t a]
          have := nmb_p (T := T) (z := z) m' (lk T z p + 1) (0 * 10 + T (lk T z p) - 48) (by omega)
          omega
        · have h4 : (1 : Int) * 10 ^ m ≤ 10000 := by
            rcases (show m = 1 ∨ m = 2 ∨ m = 3 ∨ m = 4 by omega) with e | e | e | e <;> rw [e] <;> decide
          omega
      · refine k0 _ _ _ ?_ c s S
        unfold pNum; rw [if_pos a, if_pos b, e]; rfl
    · skip
      show ab_X (d + 2) mX10_number 12 [(0, .ref 1), (1, .int (iI (m : Int)))] [.int (iI 0)] l1 _
      refine z_if_ne (tgt := 21) dX10_number_12 (by decide) (by decide) (fun c12 => absurd c12 (by decide)) (fun _ => ?_)
      refine ab_aload_n (k := 0) dX10_number_15 rfl rfl ?_
      refine ab_callV (As := []) (rest := []) dX10_number_16 lX10_32 rfl (Nat.le_of_ble_eq_true rfl) (Nat.le_of_ble_eq_true rfl) rfl ?_
      refine c_trefuse ht Sl1 (lk_lk _ _ _) (fun e16 se16 Se16 => ?_)
      show ab_X (d + 2) mX10_number 19 [(0, .ref 1), (1, .int (iI (m : Int)))] [] e16 _
      refine z_iconst dX10_number_19 ?_
      refine z_iret dX10_number_20 rfl ?_
      rw [lk_lk] at Se16
      refine k0 _ 0 _ ?_ (by omega) (sl1.trans se16) Se16
      unfold pNum
      rw [if_neg (show ¬ dg T z (lk T z p) from fun q => by
        first
        | (have := sg_in (T := T) (z := z) (p := p)
           have e3 := sg_at (T := T) (z := z) (p := p) q.1
           have := q.2
           omega)
        | exact absurd q (by assumption))]
      rfl
theorem c_dnumber {d : Nat} {h : ab_H} {Q : ab_Q} {z m : Nat} {w : Int} (hz : z ≤ 160) (Seh : TD z h w) (K : ∀ h', sm [1] h h' → TD z h' w → Q (some (.int (iI 0))) h') : ab_X (d + 2) mX10_number 0 (lv_args 0 [.ref 1, .int (iI (m : Int))]) [] h Q := by
  show ab_X (d + 2) mX10_number 0 [(0, .ref 1), (1, .int (iI (m : Int)))] [] h Q
  refine ab_aload_n (k := 0) dX10_number_0 rfl rfl ?_
  refine ab_callV (As := []) (rest := []) dX10_number_1 lX10_25 rfl (Nat.le_of_ble_eq_true rfl) (Nat.le_of_ble_eq_true rfl) rfl ?_
  refine c_dlook hz Seh (fun e1 se1 Se1 => ?_)
  show ab_X (d + 2) mX10_number 4 [(0, .ref 1), (1, .int (iI (m : Int)))] [.int (iI (-1))] e1 _
  refine z_iconst dX10_number_4 ?_
  refine z_icmp_eq (tgt := 15) dX10_number_5 (by decide) (by decide) (by decide) (fun _ => ?_) (fun c5 => absurd c5 (by decide))
  refine ab_aload_n (k := 0) dX10_number_15 rfl rfl ?_
  refine ab_callV (As := []) (rest := []) dX10_number_16 lX10_32 rfl (Nat.le_of_ble_eq_true rfl) (Nat.le_of_ble_eq_true rfl) rfl ?_
  refine c_drefuse hz Se1 (fun e16 se16 Se16 => ?_)
  show ab_X (d + 2) mX10_number 19 [(0, .ref 1), (1, .int (iI (m : Int)))] [] e16 _
  refine z_iconst dX10_number_19 ?_
  refine z_iret dX10_number_20 rfl ?_
  exact K _ (se1.trans se16) Se16
theorem c_rewind {d : Nat} {h : ab_H} {Q : ab_Q} {T : Nat → Int} {z p : Nat}  (ht : tx T z) (hz1 : zv h 1 1 = (z : Int)) (hT : ∀ i, i < z → zv h 2 i = T i) (K : ∀ h', sm [1] h h' → TL T z h' 0 → Q none h') : ab_X d mX10_rewind 0 (lv_args 0 [.ref 1]) [] h Q := by
  show ab_X d mX10_rewind 0 [(0, .ref 1)] [] h Q
  refine ab_aload_n (k := 0) dX10_rewind_0 rfl rfl ?_
  refine z_iconst dX10_rewind_1 ?_
  refine z_putI dX10_rewind_2 fX10_19 rfl rfl ?_
  refine ab_aload_n (k := 0) dX10_rewind_5 rfl rfl ?_
  refine z_iconst dX10_rewind_6 ?_
  refine z_putI dX10_rewind_7 fX10_22 rfl rfl ?_
  refine z_vret dX10_rewind_10 rfl ?_
  exact K _ ((sm_zp (by decide)).trans (sm_zp (by decide))) ⟨by rw [zv_zp_ne (by decide), zv_zp_ne (by decide)]; exact hz1, by rw [zv_zp_ne (by decide), zv_zp_s (by decide)]; rfl, zv_zp_s (by decide), fun i hi => by rw [zv_zp_a (by decide), zv_zp_a (by decide)]; exact hT i hi, Nat.zero_le z⟩
