/-! THE MODEL READS A RULE: what orders are worth; the model's place in a text -/
def rn (env : Nat → Int) (c : List (Int × Int)) (st : List Int) : List Int := c.foldl (fun s q => sp1 env q.1 q.2 s) st
theorem rn_app (env : Nat → Int) (a b : List (Int × Int)) (st : List Int) : rn env (a ++ b) st = rn env b (rn env a st) := List.foldl_append
/-- orders that neither answer nor lead away -/
def pln (c : List (Int × Int)) : Prop := ∀ q ∈ c, ¬ q.1 = 12 ∧ ¬ q.1 = 13
theorem pln_app {a b : List (Int × Int)} (x : pln a) (y : pln b) : pln (a ++ b) := fun q hq => (List.mem_append.mp hq).elim (x q) (y q)
theorem pln_one {o d : Int} (h : ¬ o = 12 ∧ ¬ o = 13) : pln [(o, d)] := fun q hq => by rw [List.mem_singleton.mp hq]; exact h
/-- the orders c, with pre upon the pile, leave v upon it, and need at most B places -/
def evp (env : Nat → Int) (pre : List Int) (c : List (Int × Int)) (v : Int) (B : Nat) : Prop := pln c ∧ ∀ st : List Int, st.length + B ≤ 32 → rn env c (pre ++ st) = v :: st
section EV
variable {env : Nat → Int} {pre : List Int} {a b c : List (Int × Int)} {v w o : Int} {B B1 : Nat}
theorem evp_mono (h : evp env pre c v B) (hB : B ≤ B1) : evp env pre c v B1 := ⟨h.1, fun st hs => h.2 st (by omega)⟩
theorem puS_ok {st : List Int} (h : st.length < 32) : puS v st = v :: st := if_pos h
theorem evp_num : evp env [] [(0, v)] v 1 := ⟨pln_one (by decide), fun st hs => by
  show sp1 env 0 v st = _
  unfold sp1; rw [if_pos rfl, puS_ok (by omega)]⟩
theorem evp_let (ho : 0 ≤ o ∧ o < 5) : evp env [] [(1, o)] (env o.toNat) 1 := ⟨pln_one (by decide), fun st hs => by
  show sp1 env 1 o st = _
  unfold sp1; rw [if_neg (by decide), if_pos rfl, if_pos ho, puS_ok (by omega)]⟩
theorem evp_op (h1 : evp env pre a v B) (h2 : evp env [] b w B1) (hB : B1 + 1 ≤ B) (ho : 2 ≤ o ∧ ¬ o = 9 ∧ o < 12) : evp env pre (a ++ (b ++ [(o, 0)])) (jn o v w) B := ⟨pln_app h1.1 (pln_app h2.1 (pln_one (by omega))), fun st hs => by
  rw [rn_app, h1.2 st hs, rn_app]
  have e := h2.2 (v :: st) (by rw [List.length_cons]; omega)
  rw [List.nil_append] at e
  rw [e]
  show sp1 env o 0 (w :: v :: st) = _
  unfold sp1; rw [if_neg (by omega), if_neg (by omega), if_neg ho.2.1]
  exact puS_ok (v := jn o v w) (by show st.length < 32; omega)⟩
theorem evp_cmp (h2 : evp env [] b w B1) (hB : B1 + 1 ≤ B) (ho : 2 ≤ o ∧ ¬ o = 9 ∧ o < 12) : evp env [v] (b ++ [(o, 0)]) (jn o v w) B := ⟨pln_app h2.1 (pln_one (by omega)), fun st hs => by
  rw [rn_app]
  have e := h2.2 (v :: st) (by rw [List.length_cons]; omega)
  rw [List.nil_append] at e
  show rn env _ (rn env b (v :: st)) = _
  rw [e]
  show sp1 env o 0 (w :: v :: st) = _
  unfold sp1; rw [if_neg (by omega), if_neg (by omega), if_neg ho.2.1]
  exact puS_ok (v := jn o v w) (by show st.length < 32; omega)⟩
theorem evp_not (h1 : evp env pre a v B) (hB : 1 ≤ B) : evp env pre (a ++ [(9, 0)]) (if v = 0 then 1 else 0) B := ⟨pln_app h1.1 (pln_one (by decide)), fun st hs => by
  rw [rn_app, h1.2 st hs]
  show sp1 env 9 0 (v :: st) = _
  unfold sp1; rw [if_neg (by decide), if_neg (by decide), if_pos rfl]
  exact puS_ok (v := if v = 0 then 1 else 0) (by show st.length < 32; omega)⟩
theorem evp_seq (h1 : evp env [] a v B) (h2 : evp env [v] b w B) : evp env [] (a ++ b) w B := ⟨pln_app h1.1 h2.1, fun st hs => by
  rw [rn_app, h1.2 st hs]; exact h2.2 st hs⟩
end EV
def FM (h0 h : ab_H) : Prop := sm [200] h0 h ∧ ∀ j, ¬ (10 ≤ j ∧ j ≤ 12) → zv h 200 j = zv h0 200 j
theorem FM.rf {h : ab_H} : FM h h := ⟨sm.refl, fun _ _ => rfl⟩
theorem FM.tr {a b c : ab_H} (x : FM a b) (y : FM b c) : FM a c := ⟨x.1.trans y.1, fun j hj => (y.2 j hj).trans (x.2 j hj)⟩
theorem FM_put {h0 h : ab_H} {j : Nat} {x : Int} (f : FM h0 h) (hj : 10 ≤ j ∧ j ≤ 12) : FM h0 (zp h 200 j x) := ⟨f.1.trans (sm_zp (by decide)), fun i hi => by rw [zv_zp_ne (by omega)]; exact f.2 i hi⟩
/-- the text that the model reads at h: z bytes from b on in t -/
def MX (T : Nat → Int) (z t b n : Nat) (env : Nat → Int) (h : ab_H) : Prop := zv h 200 9 = (z : Int) ∧ zv h 200 8 = (b : Int) ∧ h.2.2 = t ∧ (∀ i, i < z → zv h t (b + i) = sby (T i)) ∧ ab_kd t = (23, n) ∧ b + z ≤ n ∧ n ≤ 1000 ∧ ∀ s, ¬ li s = -1 → zv h 204 s.toNat = env (li s).toNat ∧ -1000000 ≤ env (li s).toNat ∧ env (li s).toNat ≤ 1000000
theorem MX_F {T : Nat → Int} {z t b n : Nat} {env : Nat → Int} {h0 h : ab_H} (x : MX T z t b n env h0) (f : FM h0 h) : MX T z t b n env h := by
  obtain ⟨a1, a2, a3, a4, a5, a6, a7, a8⟩ := x
  have ht : t ≠ 200 := fun e => by rw [e] at a5; cases a5
  exact ⟨(f.2 9 (by omega)).trans a1, (f.2 8 (by omega)).trans a2, f.1.2.2.trans a3, fun i hi => (f.1.1 t _ (by simp [ht])).trans (a4 i hi), a5, a6, a7, fun s hs => by rw [f.1.1 204 _ (by decide)]; exact a8 s hs⟩
def ML (z : Nat) (h0 h : ab_H) (p D : Nat) : Prop := FM h0 h ∧ zv h 200 10 = (p : Int) ∧ zv h 200 11 = -1 ∧ zv h 200 12 = (D : Int) ∧ p ≤ z ∧ D ≤ 6
def MD (z : Nat) (h0 h : ab_H) (w : Int) : Prop := FM h0 h ∧ zv h 200 11 = w ∧ ¬ w = -1 ∧ (0 ≤ zv h 200 10 ∧ zv h 200 10 ≤ z)
theorem ML_at {z : Nat} {h0 h : ab_H} {p q D : Nat} {x : Int} (S : ML z h0 h p D) (hz : z ≤ 160) (hx : x = (q : Int)) (hq : q ≤ z) : ML z h0 (zp h 200 10 x) q D := ⟨FM_put S.1 (by omega), by rw [zv_zp_s (by omega)]; exact hx, by rw [zv_zp_ne (by decide)]; exact S.2.2.1, by rw [zv_zp_ne (by decide)]; exact S.2.2.2.1, hq, S.2.2.2.2.2⟩
theorem ML_dp {z : Nat} {h0 h : ab_H} {p D E : Nat} {x : Int} (S : ML z h0 h p D) (hx : x = (E : Int)) (hE : E ≤ 6) : ML z h0 (zp h 200 12 x) p E := ⟨FM_put S.1 (by omega), by rw [zv_zp_ne (by decide)]; exact S.2.1, by rw [zv_zp_ne (by decide)]; exact S.2.2.1, by rw [zv_zp_s (by omega)]; exact hx, S.2.2.2.2.1, hE⟩
theorem MD_dp {z : Nat} {h0 h : ab_H} {w x : Int} (S : MD z h0 h w) : MD z h0 (zp h 200 12 x) w := ⟨FM_put S.1 (by omega), by rw [zv_zp_ne (by decide)]; exact S.2.1, S.2.2.1, by rw [zv_zp_ne (by decide)]; exact S.2.2.2⟩
theorem ML_bad {z : Nat} {h0 h : ab_H} {p D : Nat} {x : Int} (S : ML z h0 h p D) (hz : z ≤ 160) (hx : x = (p : Int)) : MD z h0 (zp h 200 11 x) (p : Int) := ⟨FM_put S.1 (by omega), by have := S.2.2.2.2.1; rw [zv_zp_s (by omega)]; exact hx, by omega, by have := S.2.2.2.2.1; rw [zv_zp_ne (by decide), S.2.1]; omega⟩
theorem sby_c {x : Int} (h : 1 ≤ x ∧ x ≤ 255) : (sby x = x ∧ x ≤ 127) ∨ (sby x = x - 256 ∧ 128 ≤ x) := by unfold sby; split <;> omega
theorem sby_and {x : Int} (h : 1 ≤ x ∧ x ≤ 255) : ((iI (sby x)) &&& (iI 255)).toInt = x := by
  have := sby_c h
  rw [and255, iI_toInt (by omega)]; omega
theorem mtx {T : Nat → Int} {z t b n : Nat} {env : Nat → Int} {h : ab_H} (x : MX T z t b n env h) : ab_P h.2.2 200 5 = t := by rw [x.2.2.1]; rfl
theorem mby {T : Nat → Int} {z t b n p : Nat} {env : Nat → Int} {h : ab_H} (x : MX T z t b n env h) (hp : p < z) : zv h t ((b : Int) + (p : Int)).toNat = sby (T p) := by
  rw [show ((b : Int) + (p : Int)).toNat = b + p by omega]; exact x.2.2.2.1 p hp
theorem lp_mlook {d : Nat} {Q : ab_Q} {h0 : ab_H} {T : Nat → Int} {z t b n : Nat} {env : Nat → Int} {p0 D : Nat} (ht : tx T z) (hx0 : MX T z t b n env h0) (K : ∀ h', ML z h0 h' (lk T z p0) D → Q (some (.int (iI (sg T z p0)))) h') : ∀ (nn : Nat) (p : Nat) (h : ab_H), z - p = nn → (ML z h0 h p D) → (lk T z p = lk T z p0) → ab_X d mX12_look 0 [(0, .ref 200)] [] h Q := by
  intro nn
  induction nn using Nat.strongRecOn with
  | ind nn ih =>
  intro p h hnn Sh hp
  have hz := ht.1
  have hx := MX_F hx0 Sh.1
  have hk := hx.2.2.2.2.1
  have hbn := hx.2.2.2.2.2.1
  have hn1 := hx.2.2.2.2.2.2.1
  have hpz := Sh.2.2.2.2.1
  refine ab_aload_n (k := 0) dX12_look_0 rfl rfl ?_
  refine z_getI dX12_look_1 fX12_134 rfl (Or.inl rfl) ?_
  refine z_is (y := (p : Int)) Sh.2.1 ?_
  refine ab_aload_n (k := 0) dX12_look_4 rfl rfl ?_
  refine z_getI dX12_look_5 fX12_137 rfl (Or.inl rfl) ?_
  refine z_is (y := (z : Int)) hx.1 ?_
  refine z_icmp_ge (tgt := 43) dX12_look_8 (by decide) (by omega) (by omega) (fun c8 => ?_) (fun c8 => ?_)
  · skip
    refine ab_aload_n (k := 0) dX12_look_43 rfl rfl ?_
    refine z_getI dX12_look_44 fX12_134 rfl (Or.inl rfl) ?_
    refine z_is (y := (p : Int)) Sh.2.1 ?_
    refine ab_aload_n (k := 0) dX12_look_47 rfl rfl ?_
    refine z_getI dX12_look_48 fX12_137 rfl (Or.inl rfl) ?_
    refine z_is (y := (z : Int)) hx.1 ?_
    refine z_icmp_ge (tgt := 75) dX12_look_51 (by decide) (by omega) (by omega) (fun c51 => ?_) (fun c51 => ?_)
    · skip
      refine z_iconst dX12_look_75 ?_
      refine z_iret dX12_look_76 rfl ?_
      have e := lk_n (T := T) (z := z) (p := p) (by omega)
      have e2 : sg T z p0 = sg T z p := by unfold sg; rw [hp]
      rw [← hp, e, e2] at K
      first
      | (rw [show sg T z p = T p by unfold sg; rw [e, if_pos (by omega)]] at K; exact K h Sh)
      | (rw [show sg T z p = -1 by unfold sg; rw [e, if_neg (by omega)]] at K; exact K h Sh)
    · skip
      refine ab_aload_n (k := 0) dX12_look_54 rfl rfl ?_
      refine z_getP (b := t) dX12_look_55 fX12_23 rfl rfl (mtx hx) ?_
      refine ab_aload_n (k := 0) dX12_look_58 rfl rfl ?_
      refine z_getI dX12_look_59 fX12_140 rfl (Or.inl rfl) ?_
      refine z_is (y := (b : Int)) hx.2.1 ?_
      refine ab_aload_n (k := 0) dX12_look_62 rfl rfl ?_
      refine z_getI dX12_look_63 fX12_134 rfl (Or.inl rfl) ?_
      refine z_is (y := (p : Int)) Sh.2.1 ?_
      refine z_iadd dX12_look_66 ?_
      refine z_bald dX12_look_67 (Or.inl hk) (by omega) (by omega) ?_
      refine z_is (y := sby (T p)) (mby hx (by omega)) ?_
      have hT := ht.2 p (by omega)
      have hTs := sby_c hT
      refine z_sipush dX12_look_68 (by decide) ?_
      refine ab_iand dX12_look_71 ?_
      refine z_top ?_
      refine z_is (y := T p) (sby_and hT) ?_
      refine ab_goto (tgt := 76) dX12_look_72 (by decide) ?_
      refine z_iret dX12_look_76 rfl ?_
      have e := lk_n (T := T) (z := z) (p := p) (by omega)
      have e2 : sg T z p0 = sg T z p := by unfold sg; rw [hp]
      rw [← hp, e, e2] at K
      first
      | (rw [show sg T z p = T p by unfold sg; rw [e, if_pos (by omega)]] at K; exact K h Sh)
      | (rw [show sg T z p = -1 by unfold sg; rw [e, if_neg (by omega)]] at K; exact K h Sh)
  · skip
    refine ab_aload_n (k := 0) dX12_look_11 rfl rfl ?_
    refine z_getP (b := t) dX12_look_12 fX12_23 rfl rfl (mtx hx) ?_
    refine ab_aload_n (k := 0) dX12_look_15 rfl rfl ?_
    refine z_getI dX12_look_16 fX12_140 rfl (Or.inl rfl) ?_
    refine z_is (y := (b : Int)) hx.2.1 ?_
    refine ab_aload_n (k := 0) dX12_look_19 rfl rfl ?_
    refine z_getI dX12_look_20 fX12_134 rfl (Or.inl rfl) ?_
    refine z_is (y := (p : Int)) Sh.2.1 ?_
    refine z_iadd dX12_look_23 ?_
    refine z_bald dX12_look_24 (Or.inl hk) (by omega) (by omega) ?_
    refine z_is (y := sby (T p)) (mby hx (by omega)) ?_
    have hT := ht.2 p (by omega)
    have hTs := sby_c hT
    refine z_bipush dX12_look_25 (by decide) ?_
    refine z_icmp_ne (tgt := 43) dX12_look_27 (by decide) (by omega) (by decide) (fun c27 => ?_) (fun c27 => ?_)
    · skip
      refine ab_aload_n (k := 0) dX12_look_43 rfl rfl ?_
      refine z_getI dX12_look_44 fX12_134 rfl (Or.inl rfl) ?_
      refine z_is (y := (p : Int)) Sh.2.1 ?_
      refine ab_aload_n (k := 0) dX12_look_47 rfl rfl ?_
      refine z_getI dX12_look_48 fX12_137 rfl (Or.inl rfl) ?_
      refine z_is (y := (z : Int)) hx.1 ?_
      refine z_icmp_ge (tgt := 75) dX12_look_51 (by decide) (by omega) (by omega) (fun c51 => ?_) (fun c51 => ?_)
      · skip
        refine z_iconst dX12_look_75 ?_
        refine z_iret dX12_look_76 rfl ?_
        have e := lk_n (T := T) (z := z) (p := p) (by omega)
        have e2 : sg T z p0 = sg T z p := by unfold sg; rw [hp]
        rw [← hp, e, e2] at K
        first
        | (rw [show sg T z p = T p by unfold sg; rw [e, if_pos (by omega)]] at K; exact K h Sh)
        | (rw [show sg T z p = -1 by unfold sg; rw [e, if_neg (by omega)]] at K; exact K h Sh)
      · skip
        refine ab_aload_n (k := 0) dX12_look_54 rfl rfl ?_
        refine z_getP (b := t) dX12_look_55 fX12_23 rfl rfl (mtx hx) ?_
        refine ab_aload_n (k := 0) dX12_look_58 rfl rfl ?_
        refine z_getI dX12_look_59 fX12_140 rfl (Or.inl rfl) ?_
        refine z_is (y := (b : Int)) hx.2.1 ?_
        refine ab_aload_n (k := 0) dX12_look_62 rfl rfl ?_
        refine z_getI dX12_look_63 fX12_134 rfl (Or.inl rfl) ?_
        refine z_is (y := (p : Int)) Sh.2.1 ?_
        refine z_iadd dX12_look_66 ?_
        refine z_bald dX12_look_67 (Or.inl hk) (by omega) (by omega) ?_
        refine z_is (y := sby (T p)) (mby hx (by omega)) ?_
        have hT := ht.2 p (by omega)
        have hTs := sby_c hT
        refine z_sipush dX12_look_68 (by decide) ?_
        refine ab_iand dX12_look_71 ?_
        refine z_top ?_
        refine z_is (y := T p) (sby_and hT) ?_
        refine ab_goto (tgt := 76) dX12_look_72 (by decide) ?_
        refine z_iret dX12_look_76 rfl ?_
        have e := lk_n (T := T) (z := z) (p := p) (by omega)
        have e2 : sg T z p0 = sg T z p := by unfold sg; rw [hp]
        rw [← hp, e, e2] at K
        first
        | (rw [show sg T z p = T p by unfold sg; rw [e, if_pos (by omega)]] at K; exact K h Sh)
        | (rw [show sg T z p = -1 by unfold sg; rw [e, if_neg (by omega)]] at K; exact K h Sh)
    · skip
      refine ab_aload_n (k := 0) dX12_look_30 rfl rfl ?_
      refine ab_dup dX12_look_31 rfl ?_
      refine z_getI dX12_look_32 fX12_134 rfl (Or.inl rfl) ?_
      refine z_is (y := (p : Int)) Sh.2.1 ?_
      refine z_iconst dX12_look_35 ?_
      refine z_iadd dX12_look_36 ?_
      refine z_putI dX12_look_37 fX12_134 rfl rfl ?_
      refine ab_goto (tgt := 0) dX12_look_40 (by decide) ?_
      refine ab_sub (ls' := [(0, .ref 200)]) (ks := [0]) rfl ?_
      exact ih _ (by omega) (p + 1) _ rfl (ML_at Sh hz (by omega) (by omega)) (by rw [← hp]; exact (lk_s ⟨by omega, by omega⟩).symm)
theorem c_mlook {d : Nat} {h0 h : ab_H} {Q : ab_Q} {T : Nat → Int} {z t b n p D : Nat} {env : Nat → Int} (ht : tx T z) (hx0 : MX T z t b n env h0) (S : ML z h0 h p D) (K : ∀ h', ML z h0 h' (lk T z p) D → Q (some (.int (iI (sg T z p)))) h') : ab_X d mX12_look 0 (lv_args 0 [.ref 200]) [] h Q := lp_mlook ht hx0 K _ p h rfl S rfl
theorem c_mlook2 {d : Nat} {h0 h : ab_H} {Q : ab_Q} {T : Nat → Int} {z t b n p D : Nat} {env : Nat → Int} (ht : tx T z) (hx0 : MX T z t b n env h0) (S : ML z h0 h (lk T z p) D) (K : ∀ h', ML z h0 h' (lk T z p) D → Q (some (.int (iI (sg T z p)))) h') : ab_X d mX12_look 0 (lv_args 0 [.ref 200]) [] h Q := c_mlook ht hx0 S (fun h' S' => by rw [lk_lk] at S'; rw [sg_lk]; exact K h' S')
theorem c_mfails {d : Nat} {h : ab_H} {Q : ab_Q} {T : Nat → Int} {z t b n : Nat} {env : Nat → Int} {h0 : ab_H} {p D : Nat}  (ht : tx T z) (hx0 : MX T z t b n env h0) (Sh : ML z h0 h p D) (K : ∀ h', MD z h0 h' (p : Int) → Q (some (.int (iI 0))) h') : ab_X d mX12_fails 0 (lv_args 0 [.ref 200]) [] h Q := by
  show ab_X d mX12_fails 0 [(0, .ref 200)] [] h Q
  have hz := ht.1
  have hx := MX_F hx0 Sh.1
  have hk := hx.2.2.2.2.1
  have hbn := hx.2.2.2.2.2.1
  have hn1 := hx.2.2.2.2.2.2.1
  have hpz := Sh.2.2.2.2.1
  refine ab_aload_n (k := 0) dX12_fails_0 rfl rfl ?_
  refine z_getI dX12_fails_1 fX12_143 rfl (Or.inl rfl) ?_
  refine z_is (y := (-1)) Sh.2.2.1 ?_
  refine z_iconst dX12_fails_4 ?_
  refine z_icmp_ne (tgt := 16) dX12_fails_5 (by decide) (by decide) (by decide) (fun c5 => absurd c5 (by decide)) (fun _ => ?_)
  refine ab_aload_n (k := 0) dX12_fails_8 rfl rfl ?_
  refine ab_aload_n (k := 0) dX12_fails_9 rfl rfl ?_
  refine z_getI dX12_fails_10 fX12_134 rfl (Or.inl rfl) ?_
  refine z_is (y := (p : Int)) Sh.2.1 ?_
  refine z_putI dX12_fails_13 fX12_143 rfl rfl ?_
  refine z_iconst dX12_fails_16 ?_
  refine z_zret dX12_fails_17 rfl (Or.inl rfl) ?_
  first | exact K _ (ML_bad Sh hz (by omega)) | (exfalso; omega)
theorem c_mfailsD {d : Nat} {h : ab_H} {Q : ab_Q} {z : Nat} {h0 : ab_H} {w : Int} (Sh : MD z h0 h w) (K : Q (some (.int (iI 0))) h) : ab_X d mX12_fails 0 (lv_args 0 [.ref 200]) [] h Q := by
  show ab_X d mX12_fails 0 [(0, .ref 200)] [] h Q
  have hw := zv_R h 200 11
  rw [Sh.2.1] at hw
  have hw1 := Sh.2.2.1
  refine ab_aload_n (k := 0) dX12_fails_0 rfl rfl ?_
  refine z_getI dX12_fails_1 fX12_143 rfl (Or.inl rfl) ?_
  refine z_is (y := w) Sh.2.1 ?_
  refine z_iconst dX12_fails_4 ?_
  refine z_icmp_ne (tgt := 16) dX12_fails_5 (by decide) (by omega) (by decide) (fun c5 => ?_) (fun c5 => ?_)
  · skip
    refine z_iconst dX12_fails_16 ?_
    refine z_zret dX12_fails_17 rfl (Or.inl rfl) ?_
    first | exact K | (exfalso; omega)
  · skip
    refine ab_aload_n (k := 0) dX12_fails_8 rfl rfl ?_
    refine ab_aload_n (k := 0) dX12_fails_9 rfl rfl ?_
    refine z_getI dX12_fails_10 fX12_134 rfl (Or.inl rfl) ?_
    have b1 := zv_R h 200 10
    refine z_putI dX12_fails_13 fX12_143 rfl rfl ?_
    refine z_iconst dX12_fails_16 ?_
    refine z_zret dX12_fails_17 rfl (Or.inl rfl) ?_
    first | exact K | (exfalso; omega)
theorem c_misDigit {d : Nat} {h : ab_H} {Q : ab_Q} {T : Nat → Int} {z t b n : Nat} {env : Nat → Int} {h0 : ab_H} {p D : Nat}  (ht : tx T z) (hx0 : MX T z t b n env h0) (Sh : ML z h0 h p D) (k1 : dg T z p → Q (some (.int (iI 1))) h) (k0 : ¬ dg T z p → Q (some (.int (iI 0))) h) : ab_X d mX12_isDigit 0 (lv_args 0 [.ref 200]) [] h Q := by
  show ab_X d mX12_isDigit 0 [(0, .ref 200)] [] h Q
  have hz := ht.1
  have hx := MX_F hx0 Sh.1
  have hk := hx.2.2.2.2.1
  have hbn := hx.2.2.2.2.2.1
  have hn1 := hx.2.2.2.2.2.2.1
  have hpz := Sh.2.2.2.2.1
  refine ab_aload_n (k := 0) dX12_isDigit_0 rfl rfl ?_
  refine z_getI dX12_isDigit_1 fX12_134 rfl (Or.inl rfl) ?_
  refine z_is (y := (p : Int)) Sh.2.1 ?_
  refine ab_aload_n (k := 0) dX12_isDigit_4 rfl rfl ?_
  refine z_getI dX12_isDigit_5 fX12_137 rfl (Or.inl rfl) ?_
  refine z_is (y := (z : Int)) hx.1 ?_
  refine z_icmp_ge (tgt := 53) dX12_isDigit_8 (by decide) (by omega) (by omega) (fun c8 => ?_) (fun c8 => ?_)
  · skip
    refine z_iconst dX12_isDigit_53 ?_
    refine z_zret dX12_isDigit_54 rfl (Or.inl rfl) ?_
    first | exact k1 ⟨by omega, by omega, by omega⟩ | exact k0 (fun q => by obtain ⟨q1, q2, q3⟩ := q; omega)
  · skip
    refine ab_aload_n (k := 0) dX12_isDigit_11 rfl rfl ?_
    refine z_getP (b := t) dX12_isDigit_12 fX12_23 rfl rfl (mtx hx) ?_
    refine ab_aload_n (k := 0) dX12_isDigit_15 rfl rfl ?_
    refine z_getI dX12_isDigit_16 fX12_140 rfl (Or.inl rfl) ?_
    refine z_is (y := (b : Int)) hx.2.1 ?_
    refine ab_aload_n (k := 0) dX12_isDigit_19 rfl rfl ?_
    refine z_getI dX12_isDigit_20 fX12_134 rfl (Or.inl rfl) ?_
    refine z_is (y := (p : Int)) Sh.2.1 ?_
    refine z_iadd dX12_isDigit_23 ?_
    refine z_bald dX12_isDigit_24 (Or.inl hk) (by omega) (by omega) ?_
    refine z_is (y := sby (T p)) (mby hx (by omega)) ?_
    have hT := ht.2 p (by omega)
    have hTs := sby_c hT
    refine z_bipush dX12_isDigit_25 (by decide) ?_
    refine z_icmp_lt (tgt := 53) dX12_isDigit_27 (by decide) (by omega) (by decide) (fun c27 => ?_) (fun c27 => ?_)
    · skip
      refine z_iconst dX12_isDigit_53 ?_
      refine z_zret dX12_isDigit_54 rfl (Or.inl rfl) ?_
      first | exact k1 ⟨by omega, by omega, by omega⟩ | exact k0 (fun q => by obtain ⟨q1, q2, q3⟩ := q; omega)
    · skip
      refine ab_aload_n (k := 0) dX12_isDigit_30 rfl rfl ?_
      refine z_getP (b := t) dX12_isDigit_31 fX12_23 rfl rfl (mtx hx) ?_
      refine ab_aload_n (k := 0) dX12_isDigit_34 rfl rfl ?_
      refine z_getI dX12_isDigit_35 fX12_140 rfl (Or.inl rfl) ?_
      refine z_is (y := (b : Int)) hx.2.1 ?_
      refine ab_aload_n (k := 0) dX12_isDigit_38 rfl rfl ?_
      refine z_getI dX12_isDigit_39 fX12_134 rfl (Or.inl rfl) ?_
      refine z_is (y := (p : Int)) Sh.2.1 ?_
      refine z_iadd dX12_isDigit_42 ?_
      refine z_bald dX12_isDigit_43 (Or.inl hk) (by omega) (by omega) ?_
      refine z_is (y := sby (T p)) (mby hx (by omega)) ?_
      have hT := ht.2 p (by omega)
      have hTs := sby_c hT
      refine z_bipush dX12_isDigit_44 (by decide) ?_
      refine z_icmp_gt (tgt := 53) dX12_isDigit_46 (by decide) (by omega) (by decide) (fun c46 => ?_) (fun c46 => ?_)
      · skip
        refine z_iconst dX12_isDigit_53 ?_
        refine z_zret dX12_isDigit_54 rfl (Or.inl rfl) ?_
        first | exact k1 ⟨by omega, by omega, by omega⟩ | exact k0 (fun q => by obtain ⟨q1, q2, q3⟩ := q; omega)
      · skip
        refine z_iconst dX12_isDigit_49 ?_
        refine ab_goto (tgt := 54) dX12_isDigit_50 (by decide) ?_
        refine z_zret dX12_isDigit_54 rfl (Or.inr rfl) ?_
        first | exact k1 ⟨by omega, by omega, by omega⟩ | exact k0 (fun q => by obtain ⟨q1, q2, q3⟩ := q; omega)
theorem c_misDigitD {d : Nat} {h : ab_H} {Q : ab_Q} {T : Nat → Int} {z t b n : Nat} {env : Nat → Int} {h0 : ab_H} {w : Int}  (ht : tx T z) (hx0 : MX T z t b n env h0) (Sh : MD z h0 h w) (k1 : Q (some (.int (iI 1))) h) (k0 : Q (some (.int (iI 0))) h) : ab_X d mX12_isDigit 0 (lv_args 0 [.ref 200]) [] h Q := by
  show ab_X d mX12_isDigit 0 [(0, .ref 200)] [] h Q
  have hz := ht.1
  have hx := MX_F hx0 Sh.1
  have hk := hx.2.2.2.2.1
  have hbn := hx.2.2.2.2.2.1
  have hn1 := hx.2.2.2.2.2.2.1
  have hpz := Sh.2.2.2
  refine ab_aload_n (k := 0) dX12_isDigit_0 rfl rfl ?_
  refine z_getI dX12_isDigit_1 fX12_134 rfl (Or.inl rfl) ?_
  have b1 := zv_R h 200 10
  refine ab_aload_n (k := 0) dX12_isDigit_4 rfl rfl ?_
  refine z_getI dX12_isDigit_5 fX12_137 rfl (Or.inl rfl) ?_
  refine z_is (y := (z : Int)) hx.1 ?_
  refine z_icmp_ge (tgt := 53) dX12_isDigit_8 (by decide) (by omega) (by omega) (fun c8 => ?_) (fun c8 => ?_)
  · skip
    refine z_iconst dX12_isDigit_53 ?_
    refine z_zret dX12_isDigit_54 rfl (Or.inl rfl) ?_
    first | exact k1 | exact k0
  · skip
    refine ab_aload_n (k := 0) dX12_isDigit_11 rfl rfl ?_
    refine z_getP (b := t) dX12_isDigit_12 fX12_23 rfl rfl (mtx hx) ?_
    refine ab_aload_n (k := 0) dX12_isDigit_15 rfl rfl ?_
    refine z_getI dX12_isDigit_16 fX12_140 rfl (Or.inl rfl) ?_
    refine z_is (y := (b : Int)) hx.2.1 ?_
    refine ab_aload_n (k := 0) dX12_isDigit_19 rfl rfl ?_
    refine z_getI dX12_isDigit_20 fX12_134 rfl (Or.inl rfl) ?_
    have b2 := zv_R h 200 10
    refine z_iadd dX12_isDigit_23 ?_
    refine z_bald dX12_isDigit_24 (Or.inl hk) (by omega) (by omega) ?_
    have b3 := zv_R h t ((b : Int) + (zv h 200 10)).toNat
    refine z_bipush dX12_isDigit_25 (by decide) ?_
    refine z_icmp_lt (tgt := 53) dX12_isDigit_27 (by decide) (by omega) (by decide) (fun c27 => ?_) (fun c27 => ?_)
    · skip
      refine z_iconst dX12_isDigit_53 ?_
      refine z_zret dX12_isDigit_54 rfl (Or.inl rfl) ?_
      first | exact k1 | exact k0
    · skip
      refine ab_aload_n (k := 0) dX12_isDigit_30 rfl rfl ?_
      refine z_getP (b := t) dX12_isDigit_31 fX12_23 rfl rfl (mtx hx) ?_
      refine ab_aload_n (k := 0) dX12_isDigit_34 rfl rfl ?_
      refine z_getI dX12_isDigit_35 fX12_140 rfl (Or.inl rfl) ?_
      refine z_is (y := (b : Int)) hx.2.1 ?_
      refine ab_aload_n (k := 0) dX12_isDigit_38 rfl rfl ?_
      refine z_getI dX12_isDigit_39 fX12_134 rfl (Or.inl rfl) ?_
      have b4 := zv_R h 200 10
      refine z_iadd dX12_isDigit_42 ?_
      refine z_bald dX12_isDigit_43 (Or.inl hk) (by omega) (by omega) ?_
      have b5 := zv_R h t ((b : Int) + (zv h 200 10)).toNat
      refine z_bipush dX12_isDigit_44 (by decide) ?_
      refine z_icmp_gt (tgt := 53) dX12_isDigit_46 (by decide) (by omega) (by decide) (fun c46 => ?_) (fun c46 => ?_)
      · skip
        refine z_iconst dX12_isDigit_53 ?_
        refine z_zret dX12_isDigit_54 rfl (Or.inl rfl) ?_
        first | exact k1 | exact k0
      · skip
        refine z_iconst dX12_isDigit_49 ?_
        refine ab_goto (tgt := 54) dX12_isDigit_50 (by decide) ?_
        refine z_zret dX12_isDigit_54 rfl (Or.inr rfl) ?_
        first | exact k1 | exact k0
theorem c_mgoesIn {d : Nat} {h : ab_H} {Q : ab_Q} {T : Nat → Int} {z t b n : Nat} {env : Nat → Int} {h0 : ab_H} {p D : Nat}  (ht : tx T z) (hx0 : MX T z t b n env h0) (Sh : ML z h0 h p D) (hp : p < z) (k1 : D < 6 → ∀ h', ML z h0 h' (p + 1) (D + 1) → Q (some (.int (iI 1))) h') (k0 : D = 6 → ∀ h', MD z h0 h' (p : Int) → Q (some (.int (iI 0))) h') : ab_X (d + 1) mX12_goesIn 0 (lv_args 0 [.ref 200]) [] h Q := by
  show ab_X (d + 1) mX12_goesIn 0 [(0, .ref 200)] [] h Q
  have hz := ht.1
  have hx := MX_F hx0 Sh.1
  have hk := hx.2.2.2.2.1
  have hbn := hx.2.2.2.2.2.1
  have hn1 := hx.2.2.2.2.2.2.1
  have hpz := Sh.2.2.2.2.1
  have hD6 := Sh.2.2.2.2.2
  refine ab_aload_n (k := 0) dX12_goesIn_0 rfl rfl ?_
  refine z_getI dX12_goesIn_1 fX12_146 rfl (Or.inl rfl) ?_
  refine z_is (y := ((D : Nat) : Int)) Sh.2.2.2.1 ?_
  refine z_bipush dX12_goesIn_4 (by decide) ?_
  refine z_icmp_ne (tgt := 14) dX12_goesIn_6 (by decide) (by omega) (by decide) (fun c6 => ?_) (fun c6 => ?_)
  · skip
    refine ab_aload_n (k := 0) dX12_goesIn_14 rfl rfl ?_
    refine ab_dup dX12_goesIn_15 rfl ?_
    refine z_getI dX12_goesIn_16 fX12_146 rfl (Or.inl rfl) ?_
    refine z_is (y := ((D : Nat) : Int)) Sh.2.2.2.1 ?_
    refine z_iconst dX12_goesIn_19 ?_
    refine z_iadd dX12_goesIn_20 ?_
    refine z_putI dX12_goesIn_21 fX12_146 rfl rfl ?_
    obtain ⟨n21, en21⟩ : ∃ zz : ab_H, zz = zp h 200 12 (((D : Nat) : Int) + 1) := ⟨_, rfl⟩
    rw [← en21]
    have Sn21 : ML z h0 n21 p (D + 1) := by rw [en21]; exact ML_dp Sh (by omega) (by omega)
    refine ab_aload_n (k := 0) dX12_goesIn_24 rfl rfl ?_
    refine ab_dup dX12_goesIn_25 rfl ?_
    refine z_getI dX12_goesIn_26 fX12_134 rfl (Or.inl rfl) ?_
    refine z_is (y := ((p : Nat) : Int)) Sn21.2.1 ?_
    refine z_iconst dX12_goesIn_29 ?_
    refine z_iadd dX12_goesIn_30 ?_
    refine z_putI dX12_goesIn_31 fX12_134 rfl rfl ?_
    obtain ⟨n31, en31⟩ : ∃ zz : ab_H, zz = zp n21 200 10 (((p : Nat) : Int) + 1) := ⟨_, rfl⟩
    rw [← en31]
    have Sn31 : ML z h0 n31 (p + 1) (D + 1) := by rw [en31]; exact ML_at Sn21 hz (by omega) (by omega)
    refine z_iconst dX12_goesIn_34 ?_
    refine z_zret dX12_goesIn_35 rfl (Or.inr rfl) ?_
    exact k1 (by omega) _ Sn31
  · skip
    refine ab_aload_n (k := 0) dX12_goesIn_9 rfl rfl ?_
    refine ab_callV (As := []) (rest := []) dX12_goesIn_10 lX12_149 rfl (Nat.le_of_ble_eq_true rfl) (Nat.le_of_ble_eq_true rfl) rfl ?_
    refine c_mfails ht hx0 Sh (fun e10 Se10 => ?_)
    show ab_X (d + 1) mX12_goesIn 13 [(0, .ref 200)] [.int (iI 0)] e10 _
    refine z_zret dX12_goesIn_13 rfl (Or.inl rfl) ?_
    exact k0 (by omega) _ Se10
theorem c_mtakes {d : Nat} {h : ab_H} {Q : ab_Q} {T : Nat → Int} {z t b n : Nat} {env : Nat → Int} {h0 : ab_H} {p D : Nat} {c : Int}  (ht : tx T z) (hx0 : MX T z t b n env h0) (hc : 0 ≤ c ∧ c ≤ 1000) (Sh : ML z h0 h p D) (k1 : sg T z p = c → ∀ h', ML z h0 h' (lk T z p + 1) D → Q (some (.int (iI 1))) h') (k0 : ¬ sg T z p = c → ∀ h', MD z h0 h' ((lk T z p : Nat) : Int) → Q (some (.int (iI 0))) h') : ab_X (d + 1) mX12_takes 0 (lv_args 0 [.ref 200, .int (iI c)]) [] h Q := by
  show ab_X (d + 1) mX12_takes 0 [(0, .ref 200), (1, .int (iI c))] [] h Q
  have hz := ht.1
  have hx := MX_F hx0 Sh.1
  have hk := hx.2.2.2.2.1
  have hbn := hx.2.2.2.2.2.1
  have hn1 := hx.2.2.2.2.2.2.1
  have hpz := Sh.2.2.2.2.1
  refine ab_aload_n (k := 0) dX12_takes_0 rfl rfl ?_
  refine z_getI dX12_takes_1 fX12_143 rfl (Or.inl rfl) ?_
  refine z_is (y := (-1)) Sh.2.2.1 ?_
  refine z_iconst dX12_takes_4 ?_
  refine z_icmp_ne (tgt := 16) dX12_takes_5 (by decide) (by decide) (by decide) (fun c5 => absurd c5 (by decide)) (fun _ => ?_)
  refine ab_aload_n (k := 0) dX12_takes_8 rfl rfl ?_
  refine ab_callV (As := []) (rest := []) dX12_takes_9 lX12_153 rfl (Nat.le_of_ble_eq_true rfl) (Nat.le_of_ble_eq_true rfl) rfl ?_
  refine c_mlook ht hx0 Sh (fun l9 Sl9 => ?_)
  have k9 := lk_ge T z p
  have y9 := sg_b ht p
  show ab_X (d + 1) mX12_takes 12 [(0, .ref 200), (1, .int (iI c))] [.int (iI (sg T z p))] l9 _
  refine ab_iload_n (k := 1) dX12_takes_12 rfl rfl ?_
  refine z_icmp_eq (tgt := 21) dX12_takes_13 (by decide) (by omega) (by omega) (fun c13 => ?_) (fun c13 => ?_)
  · skip
    have z21 := sg_in (T := T) (z := z) (p := p) (by omega)
    refine ab_aload_n (k := 0) dX12_takes_21 rfl rfl ?_
    refine ab_dup dX12_takes_22 rfl ?_
    refine z_getI dX12_takes_23 fX12_134 rfl (Or.inl rfl) ?_
    refine z_is (y := (((lk T z p) : Nat) : Int)) Sl9.2.1 ?_
    refine z_iconst dX12_takes_26 ?_
    refine z_iadd dX12_takes_27 ?_
    refine z_putI dX12_takes_28 fX12_134 rfl rfl ?_
    obtain ⟨n28, en28⟩ : ∃ zz : ab_H, zz = zp l9 200 10 ((((lk T z p) : Nat) : Int) + 1) := ⟨_, rfl⟩
    rw [← en28]
    have Sn28 : ML z h0 n28 ((lk T z p) + 1) D := by rw [en28]; exact ML_at Sl9 hz (by omega) (by omega)
    refine z_iconst dX12_takes_31 ?_
    refine z_zret dX12_takes_32 rfl (Or.inr rfl) ?_
    exact k1 (by omega) _ Sn28
  · skip
    refine ab_aload_n (k := 0) dX12_takes_16 rfl rfl ?_
    refine ab_callV (As := []) (rest := []) dX12_takes_17 lX12_149 rfl (Nat.le_of_ble_eq_true rfl) (Nat.le_of_ble_eq_true rfl) rfl ?_
    refine c_mfails ht hx0 Sl9 (fun e17 Se17 => ?_)
    show ab_X (d + 1) mX12_takes 20 [(0, .ref 200), (1, .int (iI c))] [.int (iI 0)] e17 _
    refine z_zret dX12_takes_20 rfl (Or.inl rfl) ?_
    exact k0 (by omega) _ Se17
theorem c_mtakesD {d : Nat} {h : ab_H} {Q : ab_Q} {z : Nat} {h0 : ab_H} {w c : Int} (Sh : MD z h0 h w) (K : Q (some (.int (iI 0))) h) : ab_X (d + 1) mX12_takes 0 (lv_args 0 [.ref 200, .int (iI c)]) [] h Q := by
  show ab_X (d + 1) mX12_takes 0 [(0, .ref 200), (1, .int (iI c))] [] h Q
  have hw := zv_R h 200 11
  rw [Sh.2.1] at hw
  have hw1 := Sh.2.2.1
  refine ab_aload_n (k := 0) dX12_takes_0 rfl rfl ?_
  refine z_getI dX12_takes_1 fX12_143 rfl (Or.inl rfl) ?_
  refine z_is (y := w) Sh.2.1 ?_
  refine z_iconst dX12_takes_4 ?_
  refine z_icmp_ne (tgt := 16) dX12_takes_5 (by decide) (by omega) (by decide) (fun c5 => ?_) (fun c5 => absurd c5 (by omega))
  refine ab_aload_n (k := 0) dX12_takes_16 rfl rfl ?_
  refine ab_callV (As := []) (rest := []) dX12_takes_17 lX12_149 rfl (Nat.le_of_ble_eq_true rfl) (Nat.le_of_ble_eq_true rfl) rfl ?_
  refine c_mfailsD Sh ?_
  show ab_X (d + 1) mX12_takes 20 [(0, .ref 200), (1, .int (iI c))] [.int (iI 0)] h _
  refine z_zret dX12_takes_20 rfl (Or.inl rfl) ?_
  exact K
theorem c_mwithin {d : Nat} {h : ab_H} {Q : ab_Q} {v : Int} (hv : inL v) (K : Q (some (.int (iI (bnd v)))) h) : ab_X (d + 1) mX12_within 0 (lv_args 0 [.long (lL v)]) [] h Q := by
  show ab_X (d + 1) mX12_within 0 [(0, .long (lL v))] [] h Q
  refine z_ldc2 (v := (-1000000)) dX12_within_0 qX12_156 (by decide) ?_
  refine z_ldc2 (v := 1000000) dX12_within_3 qX12_158 (by decide) ?_
  refine ab_lload_n (k := 0) dX12_within_6 rfl rfl ?_
  refine z_mminl dX12_within_7 lX12_160 (Nat.le_of_ble_eq_true rfl) (by decide) (by omega) ?_
  refine z_mmaxl dX12_within_10 lX12_166 (Nat.le_of_ble_eq_true rfl) (by decide) (by omega) ?_
  refine z_l2i dX12_within_13 ?_
  refine z_iret dX12_within_14 rfl ?_
  exact K
theorem c_misSign {d : Nat} {h : ab_H} {Q : ab_Q} {s : Int} (hs : inR s) (k1 : ¬ cmpo s = -1 → Q (some (.int (iI 1))) h) (k0 : cmpo s = -1 → Q (some (.int (iI 0))) h) : ab_X d mX12_isSign 0 (lv_args 0 [.int (iI s)]) [] h Q := by
  show ab_X d mX12_isSign 0 [(0, .int (iI s))] [] h Q
  refine ab_iload_n (k := 0) dX12_isSign_0 rfl rfl ?_
  refine z_bipush dX12_isSign_1 (by decide) ?_
  refine z_icmp_eq (tgt := 18) dX12_isSign_3 (by decide) (by omega) (by decide) (fun c3 => ?_) (fun c3 => ?_)
  · skip
    refine z_iconst dX12_isSign_18 ?_
    refine ab_goto (tgt := 23) dX12_isSign_19 (by decide) ?_
    refine z_zret dX12_isSign_23 rfl (Or.inr rfl) ?_
    first | exact k1 (by unfold cmpo; (repeat' split) <;> omega) | exact k0 (by unfold cmpo; (repeat' split) <;> omega)
  · skip
    refine ab_iload_n (k := 0) dX12_isSign_6 rfl rfl ?_
    refine z_bipush dX12_isSign_7 (by decide) ?_
    refine z_icmp_eq (tgt := 18) dX12_isSign_9 (by decide) (by omega) (by decide) (fun c9 => ?_) (fun c9 => ?_)
    · skip
      refine z_iconst dX12_isSign_18 ?_
      refine ab_goto (tgt := 23) dX12_isSign_19 (by decide) ?_
      refine z_zret dX12_isSign_23 rfl (Or.inr rfl) ?_
      first | exact k1 (by unfold cmpo; (repeat' split) <;> omega) | exact k0 (by unfold cmpo; (repeat' split) <;> omega)
    · skip
      refine ab_iload_n (k := 0) dX12_isSign_12 rfl rfl ?_
      refine z_bipush dX12_isSign_13 (by decide) ?_
      refine z_icmp_ne (tgt := 22) dX12_isSign_15 (by decide) (by omega) (by decide) (fun c15 => ?_) (fun c15 => ?_)
      · skip
        refine z_iconst dX12_isSign_22 ?_
        refine z_zret dX12_isSign_23 rfl (Or.inl rfl) ?_
        first | exact k1 (by unfold cmpo; (repeat' split) <;> omega) | exact k0 (by unfold cmpo; (repeat' split) <;> omega)
      · skip
        refine z_iconst dX12_isSign_18 ?_
        refine ab_goto (tgt := 23) dX12_isSign_19 (by decide) ?_
        refine z_zret dX12_isSign_23 rfl (Or.inr rfl) ?_
        first | exact k1 (by unfold cmpo; (repeat' split) <;> omega) | exact k0 (by unfold cmpo; (repeat' split) <;> omega)
