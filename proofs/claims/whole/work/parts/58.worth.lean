/-! WORTH: the class goes through the orders of a rule -/
section WR
variable {env : Nat → Int} {o d f : Int} {r : List (Int × Int)} {i : Nat} {st : List Int}
theorem wrt_skip (h : (i : Int) < f) : wrt env ((o, d) :: r) i f st = wrt env r (i + 1) f st := if_pos h
theorem wrt_ans (h : ¬ (i : Int) < f) (ho : o = 13) : wrt env ((o, d) :: r) i f st = st.headD 0 := by
  show (if _ then _ else _) = _; rw [if_neg h, if_pos ho]
theorem wrt_unl (h : ¬ (i : Int) < f) (ho : o = 12) : wrt env ((o, d) :: r) i f st = wrt env r (i + 1) (if st.headD 0 = 0 then d else (i : Int)) st.tail := by
  show (if _ then _ else _) = _; rw [if_neg h, if_neg (show ¬ (o, d).1 = 13 by show ¬ o = 13; omega), if_pos ho]
theorem wrt_op (h : ¬ (i : Int) < f) (h1 : ¬ o = 13) (h2 : ¬ o = 12) : wrt env ((o, d) :: r) i f st = wrt env r (i + 1) f (sp1 env o d st) := by
  show (if _ then _ else _) = _; rw [if_neg h, if_neg h1, if_neg h2]
end WR
theorem drop_c {c : List (Int × Int)} {i : Nat} {o d : Int} (h : i < c.length) (e : c.getD i (0, 0) = (o, d)) : c.drop i = (o, d) :: c.drop (i + 1) := by
  rw [List.drop_eq_getElem_cons h]
  congr 1
  rw [← e, List.getD_eq_getElem?_getD, List.getElem?_eq_getElem h]; rfl
theorem lp_worth0 {d : Nat} {Q : ab_Q} {h0 : ab_H} {c : List (Int × Int)} {env : Nat → Int} {V : Int} (C0 : CCr 20 h0 c) (hl : c.length ≤ 160) (hE : ∀ j, j < 5 → zv h0 199 j = env j) (K : ∀ h', sm [20, 23] h0 h' → zv h' 20 3 = zv h0 20 3 → Q (some (.int (iI V))) h') : ∀ (nn : Nat) (i : Nat) (f : Int) (st : List Int) (h : ab_H), c.length - i = nn → (sm [20, 23] h0 h) → (zv h 20 3 = zv h0 20 3) → (PLr 20 h st) → (i ≤ c.length) → (inR f) → (wrt env (c.drop i) i f st = V) → ab_X (d + 3) mX7_worth 9 [(0, .ref 20), (1, .ref 199), (2, .int (iI f)), (3, .int (iI (i : Int)))] [] h Q := by
  intro nn
  induction nn using Nat.strongRecOn with
  | ind nn ih =>
  intro i f st h hnn xh th Ph hi hf hV
  have C : CCr 20 h c := ⟨th.trans C0.1, fun j hj => ⟨(xh.1 21 j (by decide)).trans (C0.2 j hj).1, (xh.1 22 j (by decide)).trans (C0.2 j hj).2⟩⟩
  refine ab_iload_n (k := 3) dX7_worth_9 rfl rfl ?_
  refine ab_aload_n (k := 0) dX7_worth_10 rfl rfl ?_
  refine z_getI dX7_worth_11 fX7_21 rfl (Or.inl rfl) ?_
  refine z_is (y := ((c.length : Nat) : Int)) C.1 ?_
  refine z_icmp_ge (tgt := 205) dX7_worth_14 (by decide) (by omega) (by omega) (fun c14 => ?_) (fun c14 => ?_)
  · skip
    refine z_iconst dX7_worth_205 ?_
    refine z_iret dX7_worth_206 rfl ?_
    have e : c.drop i = [] := List.drop_eq_nil_of_le (by omega)
    rw [e] at hV
    rw [show (0 : Int) = V from hV]
    exact K h xh th
  · skip
    have hic : i < c.length := by omega
    obtain ⟨o, dd, hod⟩ : ∃ o dd, c.getD i (0, 0) = (o, dd) := ⟨_, _, rfl⟩
    have ho : zv h 21 i = o := by have := (C.2 i hic).1; rw [hod] at this; exact this
    have hdd : zv h 22 i = dd := by have := (C.2 i hic).2; rw [hod] at this; exact this
    have hoR := zv_R h 21 i
    rw [ho] at hoR
    have hdR := zv_R h 22 i
    rw [hdd] at hdR
    have hdrop := drop_c hic hod
    refine ab_iload_n (k := 3) dX7_worth_17 rfl rfl ?_
    refine ab_iload_n (k := 2) dX7_worth_18 rfl rfl ?_
    refine z_icmp_ge (tgt := 25) dX7_worth_19 (by decide) (by omega) (by omega) (fun c19 => ?_) (fun c19 => ?_)
    · skip
      refine ab_aload_n (k := 0) dX7_worth_25 rfl rfl ?_
      refine z_getP (b := 21) dX7_worth_26 fX7_9 rfl rfl rfl ?_
      refine ab_iload_n (k := 3) dX7_worth_29 rfl rfl ?_
      refine z_iald dX7_worth_30 rfl (by omega) (by omega) ?_
      simp only [Int.toNat_natCast]
      refine z_is (y := o) ho ?_
      refine z_bipush dX7_worth_31 (by decide) ?_
      refine z_icmp_ne (tgt := 41) dX7_worth_33 (by decide) (by omega) (by decide) (fun c33 => ?_) (fun c33 => ?_)
      · skip
        refine ab_aload_n (k := 0) dX7_worth_41 rfl rfl ?_
        refine z_getP (b := 21) dX7_worth_42 fX7_9 rfl rfl rfl ?_
        refine ab_iload_n (k := 3) dX7_worth_45 rfl rfl ?_
        refine z_iald dX7_worth_46 rfl (by omega) (by omega) ?_
        simp only [Int.toNat_natCast]
        refine z_is (y := o) ho ?_
        refine z_bipush dX7_worth_47 (by decide) ?_
        refine z_icmp_ne (tgt := 73) dX7_worth_49 (by decide) (by omega) (by decide) (fun c49 => ?_) (fun c49 => ?_)
        · skip
          refine ab_aload_n (k := 0) dX7_worth_73 rfl rfl ?_
          refine z_getP (b := 21) dX7_worth_74 fX7_9 rfl rfl rfl ?_
          refine ab_iload_n (k := 3) dX7_worth_77 rfl rfl ?_
          refine z_iald dX7_worth_78 rfl (by omega) (by omega) ?_
          simp only [Int.toNat_natCast]
          refine z_is (y := o) ho ?_
          refine z_if_ne (tgt := 95) dX7_worth_79 (by decide) (by omega) (fun c79 => ?_) (fun c79 => ?_)
          · skip
            refine ab_aload_n (k := 0) dX7_worth_95 rfl rfl ?_
            refine z_getP (b := 21) dX7_worth_96 fX7_9 rfl rfl rfl ?_
            refine ab_iload_n (k := 3) dX7_worth_99 rfl rfl ?_
            refine z_iald dX7_worth_100 rfl (by omega) (by omega) ?_
            simp only [Int.toNat_natCast]
            refine z_is (y := o) ho ?_
            refine z_iconst dX7_worth_101 ?_
            refine z_icmp_ne (tgt := 144) dX7_worth_102 (by decide) (by omega) (by decide) (fun c102 => ?_) (fun c102 => ?_)
            · skip
              refine ab_aload_n (k := 0) dX7_worth_144 rfl rfl ?_
              refine z_getP (b := 21) dX7_worth_145 fX7_9 rfl rfl rfl ?_
              refine ab_iload_n (k := 3) dX7_worth_148 rfl rfl ?_
              refine z_iald dX7_worth_149 rfl (by omega) (by omega) ?_
              simp only [Int.toNat_natCast]
              refine z_is (y := o) ho ?_
              refine z_bipush dX7_worth_150 (by decide) ?_
              refine z_icmp_ne (tgt := 174) dX7_worth_152 (by decide) (by omega) (by decide) (fun c152 => ?_) (fun c152 => ?_)
              · skip
                refine ab_aload_n (k := 0) dX7_worth_174 rfl rfl ?_
                refine ab_callV (As := []) (rest := []) dX7_worth_175 lX7_34 rfl (Nat.le_of_ble_eq_true rfl) (Nat.le_of_ble_eq_true rfl) rfl ?_
                have hd175 := hd_R Ph
                refine c_pop0 Ph (fun g175 sg175 tg175 Pg175 => ?_)
                have yg175 := sg175
                have ug175 := tg175
                show ab_X (d + 3) mX7_worth 178 [(0, .ref 20), (1, .ref 199), (2, .int (iI f)), (3, .int (iI (i : Int)))] [.int (iI (st.headD 0))] g175 _
                refine ab_istore (ls' := [(4, .int (iI (st.headD 0))), (0, .ref 20), (1, .ref 199), (2, .int (iI f)), (3, .int (iI (i : Int)))]) dX7_worth_178 (by decide) rfl ?_
                refine ab_aload_n (k := 1) dX7_worth_180 rfl rfl ?_
                refine ab_aload_n (k := 1) dX7_worth_181 rfl rfl ?_
                refine z_getP (b := 21) dX7_worth_182 fX7_9 rfl rfl rfl ?_
                refine ab_iload_n (k := 4) dX7_worth_185 rfl rfl ?_
                refine z_iald dX7_worth_186 rfl (by omega) (by omega) ?_
                simp only [Int.toNat_natCast]
                refine z_is (y := o) ((yg175.1 21 i (by decide)).trans ho) ?_
                refine ab_aload_n (k := 1) dX7_worth_187 rfl rfl ?_
                refine ab_callV (As := []) (rest := [.int (iI o), .ref 20]) dX7_worth_188 lX7_34 rfl (Nat.le_of_ble_eq_true rfl) (Nat.le_of_ble_eq_true rfl) rfl ?_
                have hd188 := hd_R Pg175
                refine c_pop0 Pg175 (fun g188 sg188 tg188 Pg188 => ?_)
                have yg188 := yg175.trans sg188
                have ug188 := tg188.trans ug175
                show ab_X (d + 3) mX7_worth 191 [(4, .int (iI (st.headD 0))), (0, .ref 20), (1, .ref 199), (2, .int (iI f)), (3, .int (iI (i : Int)))] [.int (iI (st.tail.headD 0)), .int (iI o), .ref 20] g188 _
                refine ab_iload (k := 0) dX7_worth_191 rfl ?_
                refine ab_callS (As := [.int (iI o), .int (iI (st.tail.headD 0)), .int (iI (st.headD 0))]) (rest := [.ref 20]) dX7_worth_193 lX7_42 (Nat.le_of_ble_eq_true rfl) (Nat.le_of_ble_eq_true rfl) rfl ?_
                refine c_joined hoR (by omega) (by omega) ?_
                show ab_X (d + 3) mX7_worth 196 [(4, .int (iI (st.headD 0))), (0, .ref 20), (1, .ref 199), (2, .int (iI f)), (3, .int (iI (i : Int)))] [.int (iI (jn o (st.tail.headD 0) (st.headD 0))), .ref 20] g188 _
                refine ab_callV (As := [.int (iI (jn o (st.tail.headD 0) (st.headD 0)))]) (rest := []) dX7_worth_196 lX7_38 rfl (Nat.le_of_ble_eq_true rfl) (Nat.le_of_ble_eq_true rfl) rfl ?_
                refine c_push0 (jn_R _ _ _) Pg188 (fun g196 sg196 tg196 Pg196 => ?_)
                have yg196 := yg188.trans sg196
                have ug196 := tg196.trans ug188
                show ab_X (d + 3) mX7_worth 199 [(4, .int (iI (st.headD 0))), (0, .ref 20), (1, .ref 199), (2, .int (iI f)), (3, .int (iI (i : Int)))] [] g196 _
                refine z_iinc (k := 4) (v := (i : Int) + 1) (ls' := [(3, .int (iI ((i : Int) + 1))), (4, .int (iI (st.headD 0))), (0, .ref 20), (1, .ref 199), (2, .int (iI f))]) dX7_worth_199 rfl rfl (by decide) rfl ?_
                refine ab_goto (tgt := 9) dX7_worth_202 (by decide) ?_
                refine ab_sub (ls' := [(0, .ref 20), (1, .ref 199), (2, .int (iI f)), (3, .int (iI ((i : Int) + 1)))]) (ks := [2, 3, 4, 0]) rfl ?_
                refine ih _ (by omega) (i + 1) f (puS (jn o (st.tail.headD 0) (st.headD 0)) st.tail.tail) _ rfl (xh.trans yg196) (ug196.trans th) Pg196 (by omega) (by omega) ?_
                rw [← hV, hdrop, wrt_op (by omega) (by omega) (by omega)]
                congr 1
                unfold sp1
                rw [if_neg (by omega), if_neg (by omega), if_neg (by omega)]
              · skip
                refine ab_aload_n (k := 0) dX7_worth_155 rfl rfl ?_
                refine ab_aload_n (k := 0) dX7_worth_156 rfl rfl ?_
                refine ab_callV (As := []) (rest := [.ref 20]) dX7_worth_157 lX7_34 rfl (Nat.le_of_ble_eq_true rfl) (Nat.le_of_ble_eq_true rfl) rfl ?_
                have hd157 := hd_R Ph
                refine c_pop0 Ph (fun g157 sg157 tg157 Pg157 => ?_)
                have yg157 := sg157
                have ug157 := tg157
                show ab_X (d + 3) mX7_worth 160 [(0, .ref 20), (1, .ref 199), (2, .int (iI f)), (3, .int (iI (i : Int)))] [.int (iI (st.headD 0)), .ref 20] g157 _
                refine z_if_ne (tgt := 167) dX7_worth_160 (by decide) (by omega) (fun c160 => ?_) (fun c160 => ?_)
                · skip
                  refine z_iconst dX7_worth_167 ?_
                  refine ab_callV (As := [.int (iI 0)]) (rest := []) dX7_worth_168 lX7_38 rfl (Nat.le_of_ble_eq_true rfl) (Nat.le_of_ble_eq_true rfl) rfl ?_
                  refine c_push0 (by first | omega | decide | exact zv_R _ _ _) Pg157 (fun g168 sg168 tg168 Pg168 => ?_)
                  have yg168 := yg157.trans sg168
                  have ug168 := tg168.trans ug157
                  show ab_X (d + 3) mX7_worth 171 [(0, .ref 20), (1, .ref 199), (2, .int (iI f)), (3, .int (iI (i : Int)))] [] g168 _
                  refine ab_goto (tgt := 199) dX7_worth_171 (by decide) ?_
                  refine z_iinc (k := 3) (v := (i : Int) + 1) (ls' := [(3, .int (iI ((i : Int) + 1))), (0, .ref 20), (1, .ref 199), (2, .int (iI f))]) dX7_worth_199 rfl rfl (by decide) rfl ?_
                  refine ab_goto (tgt := 9) dX7_worth_202 (by decide) ?_
                  refine ab_sub (ls' := [(0, .ref 20), (1, .ref 199), (2, .int (iI f)), (3, .int (iI ((i : Int) + 1)))]) (ks := [1, 2, 3, 0]) rfl ?_
                  refine ih _ (by omega) (i + 1) f (puS 0 st.tail) _ rfl (xh.trans yg168) (ug168.trans th) Pg168 (by omega) (by omega) ?_
                  rw [← hV, hdrop, wrt_op (by omega) (by omega) (by omega)]
                  congr 1
                  unfold sp1
                  rw [if_neg (by omega), if_neg (by omega), if_pos (by omega)]
                  first
                  | rw [if_pos (by omega)]
                  | rw [if_neg (by omega)]
                · skip
                  refine z_iconst dX7_worth_163 ?_
                  refine ab_goto (tgt := 168) dX7_worth_164 (by decide) ?_
                  refine ab_callV (As := [.int (iI 1)]) (rest := []) dX7_worth_168 lX7_38 rfl (Nat.le_of_ble_eq_true rfl) (Nat.le_of_ble_eq_true rfl) rfl ?_
                  refine c_push0 (by first | omega | decide | exact zv_R _ _ _) Pg157 (fun g168 sg168 tg168 Pg168 => ?_)
                  have yg168 := yg157.trans sg168
                  have ug168 := tg168.trans ug157
                  show ab_X (d + 3) mX7_worth 171 [(0, .ref 20), (1, .ref 199), (2, .int (iI f)), (3, .int (iI (i : Int)))] [] g168 _
                  refine ab_goto (tgt := 199) dX7_worth_171 (by decide) ?_
                  refine z_iinc (k := 3) (v := (i : Int) + 1) (ls' := [(3, .int (iI ((i : Int) + 1))), (0, .ref 20), (1, .ref 199), (2, .int (iI f))]) dX7_worth_199 rfl rfl (by decide) rfl ?_
                  refine ab_goto (tgt := 9) dX7_worth_202 (by decide) ?_
                  refine ab_sub (ls' := [(0, .ref 20), (1, .ref 199), (2, .int (iI f)), (3, .int (iI ((i : Int) + 1)))]) (ks := [1, 2, 3, 0]) rfl ?_
                  refine ih _ (by omega) (i + 1) f (puS 1 st.tail) _ rfl (xh.trans yg168) (ug168.trans th) Pg168 (by omega) (by omega) ?_
                  rw [← hV, hdrop, wrt_op (by omega) (by omega) (by omega)]
                  congr 1
                  unfold sp1
                  rw [if_neg (by omega), if_neg (by omega), if_pos (by omega)]
                  first
                  | rw [if_pos (by omega)]
                  | rw [if_neg (by omega)]
            · skip
              refine ab_aload_n (k := 0) dX7_worth_105 rfl rfl ?_
              refine ab_aload_n (k := 0) dX7_worth_106 rfl rfl ?_
              refine z_getP (b := 22) dX7_worth_107 fX7_15 rfl rfl rfl ?_
              refine ab_iload_n (k := 3) dX7_worth_110 rfl rfl ?_
              refine z_iald dX7_worth_111 rfl (by omega) (by omega) ?_
              simp only [Int.toNat_natCast]
              refine z_is (y := dd) hdd ?_
              refine z_if_lt (tgt := 137) dX7_worth_112 (by decide) (by omega) (fun c112 => ?_) (fun c112 => ?_)
              · skip
                refine z_iconst dX7_worth_137 ?_
                refine ab_callV (As := [.int (iI 0)]) (rest := []) dX7_worth_138 lX7_38 rfl (Nat.le_of_ble_eq_true rfl) (Nat.le_of_ble_eq_true rfl) rfl ?_
                refine c_push0 (by first | omega | decide | exact zv_R _ _ _) Ph (fun g138 sg138 tg138 Pg138 => ?_)
                have yg138 := sg138
                have ug138 := tg138
                show ab_X (d + 3) mX7_worth 141 [(0, .ref 20), (1, .ref 199), (2, .int (iI f)), (3, .int (iI (i : Int)))] [] g138 _
                refine ab_goto (tgt := 199) dX7_worth_141 (by decide) ?_
                refine z_iinc (k := 3) (v := (i : Int) + 1) (ls' := [(3, .int (iI ((i : Int) + 1))), (0, .ref 20), (1, .ref 199), (2, .int (iI f))]) dX7_worth_199 rfl rfl (by decide) rfl ?_
                refine ab_goto (tgt := 9) dX7_worth_202 (by decide) ?_
                refine ab_sub (ls' := [(0, .ref 20), (1, .ref 199), (2, .int (iI f)), (3, .int (iI ((i : Int) + 1)))]) (ks := [1, 2, 3, 0]) rfl ?_
                refine ih _ (by omega) (i + 1) f (puS 0 st) _ rfl (xh.trans yg138) (ug138.trans th) Pg138 (by omega) (by omega) ?_
                rw [← hV, hdrop, wrt_op (by omega) (by omega) (by omega)]
                congr 1
                unfold sp1
                rw [if_neg (by omega), if_pos (by omega)]
                first
                | (rw [if_pos (by omega)]; rw [show zv h 199 dd.toNat = env dd.toNat from (xh.1 199 _ (by decide)).trans (hE _ (by omega))])
                | rw [if_neg (by omega)]
              · skip
                refine ab_aload_n (k := 0) dX7_worth_115 rfl rfl ?_
                refine z_getP (b := 22) dX7_worth_116 fX7_15 rfl rfl rfl ?_
                refine ab_iload_n (k := 3) dX7_worth_119 rfl rfl ?_
                refine z_iald dX7_worth_120 rfl (by omega) (by omega) ?_
                simp only [Int.toNat_natCast]
                refine z_is (y := dd) hdd ?_
                refine ab_aload_n (k := 1) dX7_worth_121 rfl rfl ?_
                refine z_alen dX7_worth_122 rfl (Or.inl rfl) ?_
                refine z_icmp_ge (tgt := 137) dX7_worth_123 (by decide) (by omega) (by decide) (fun c123 => ?_) (fun c123 => ?_)
                · skip
                  refine z_iconst dX7_worth_137 ?_
                  refine ab_callV (As := [.int (iI 0)]) (rest := []) dX7_worth_138 lX7_38 rfl (Nat.le_of_ble_eq_true rfl) (Nat.le_of_ble_eq_true rfl) rfl ?_
                  refine c_push0 (by first | omega | decide | exact zv_R _ _ _) Ph (fun g138 sg138 tg138 Pg138 => ?_)
                  have yg138 := sg138
                  have ug138 := tg138
                  show ab_X (d + 3) mX7_worth 141 [(0, .ref 20), (1, .ref 199), (2, .int (iI f)), (3, .int (iI (i : Int)))] [] g138 _
                  refine ab_goto (tgt := 199) dX7_worth_141 (by decide) ?_
                  refine z_iinc (k := 3) (v := (i : Int) + 1) (ls' := [(3, .int (iI ((i : Int) + 1))), (0, .ref 20), (1, .ref 199), (2, .int (iI f))]) dX7_worth_199 rfl rfl (by decide) rfl ?_
                  refine ab_goto (tgt := 9) dX7_worth_202 (by decide) ?_
                  refine ab_sub (ls' := [(0, .ref 20), (1, .ref 199), (2, .int (iI f)), (3, .int (iI ((i : Int) + 1)))]) (ks := [1, 2, 3, 0]) rfl ?_
                  refine ih _ (by omega) (i + 1) f (puS 0 st) _ rfl (xh.trans yg138) (ug138.trans th) Pg138 (by omega) (by omega) ?_
                  rw [← hV, hdrop, wrt_op (by omega) (by omega) (by omega)]
                  congr 1
                  unfold sp1
                  rw [if_neg (by omega), if_pos (by omega)]
                  first
                  | (rw [if_pos (by omega)]; rw [show zv h 199 dd.toNat = env dd.toNat from (xh.1 199 _ (by decide)).trans (hE _ (by omega))])
                  | rw [if_neg (by omega)]
                · skip
                  refine ab_aload_n (k := 1) dX7_worth_126 rfl rfl ?_
                  refine ab_aload_n (k := 0) dX7_worth_127 rfl rfl ?_
                  refine z_getP (b := 22) dX7_worth_128 fX7_15 rfl rfl rfl ?_
                  refine ab_iload_n (k := 3) dX7_worth_131 rfl rfl ?_
                  refine z_iald dX7_worth_132 rfl (by omega) (by omega) ?_
                  simp only [Int.toNat_natCast]
                  refine z_is (y := dd) hdd ?_
                  refine z_iald dX7_worth_133 rfl (by omega) (by omega) ?_
                  have b1 := zv_R h 199 dd.toNat
                  refine ab_goto (tgt := 138) dX7_worth_134 (by decide) ?_
                  refine ab_callV (As := [.int (iI (zv h 199 dd.toNat))]) (rest := []) dX7_worth_138 lX7_38 rfl (Nat.le_of_ble_eq_true rfl) (Nat.le_of_ble_eq_true rfl) rfl ?_
                  refine c_push0 (by first | omega | decide | exact zv_R _ _ _) Ph (fun g138 sg138 tg138 Pg138 => ?_)
                  have yg138 := sg138
                  have ug138 := tg138
                  show ab_X (d + 3) mX7_worth 141 [(0, .ref 20), (1, .ref 199), (2, .int (iI f)), (3, .int (iI (i : Int)))] [] g138 _
                  refine ab_goto (tgt := 199) dX7_worth_141 (by decide) ?_
                  refine z_iinc (k := 3) (v := (i : Int) + 1) (ls' := [(3, .int (iI ((i : Int) + 1))), (0, .ref 20), (1, .ref 199), (2, .int (iI f))]) dX7_worth_199 rfl rfl (by decide) rfl ?_
                  refine ab_goto (tgt := 9) dX7_worth_202 (by decide) ?_
                  refine ab_sub (ls' := [(0, .ref 20), (1, .ref 199), (2, .int (iI f)), (3, .int (iI ((i : Int) + 1)))]) (ks := [1, 2, 3, 0]) rfl ?_
                  refine ih _ (by omega) (i + 1) f (puS (zv h 199 dd.toNat) st) _ rfl (xh.trans yg138) (ug138.trans th) Pg138 (by omega) (by omega) ?_
                  rw [← hV, hdrop, wrt_op (by omega) (by omega) (by omega)]
                  congr 1
                  unfold sp1
                  rw [if_neg (by omega), if_pos (by omega)]
                  first
                  | (rw [if_pos (by omega)]; rw [show zv h 199 dd.toNat = env dd.toNat from (xh.1 199 _ (by decide)).trans (hE _ (by omega))])
                  | rw [if_neg (by omega)]
          · skip
            refine ab_aload_n (k := 0) dX7_worth_82 rfl rfl ?_
            refine ab_aload_n (k := 0) dX7_worth_83 rfl rfl ?_
            refine z_getP (b := 22) dX7_worth_84 fX7_15 rfl rfl rfl ?_
            refine ab_iload_n (k := 3) dX7_worth_87 rfl rfl ?_
            refine z_iald dX7_worth_88 rfl (by omega) (by omega) ?_
            simp only [Int.toNat_natCast]
            refine z_is (y := dd) hdd ?_
            refine ab_callV (As := [.int (iI dd)]) (rest := []) dX7_worth_89 lX7_38 rfl (Nat.le_of_ble_eq_true rfl) (Nat.le_of_ble_eq_true rfl) rfl ?_
            refine c_push0 (by first | omega | decide | exact zv_R _ _ _) Ph (fun g89 sg89 tg89 Pg89 => ?_)
            have yg89 := sg89
            have ug89 := tg89
            show ab_X (d + 3) mX7_worth 92 [(0, .ref 20), (1, .ref 199), (2, .int (iI f)), (3, .int (iI (i : Int)))] [] g89 _
            refine ab_goto (tgt := 199) dX7_worth_92 (by decide) ?_
            refine z_iinc (k := 3) (v := (i : Int) + 1) (ls' := [(3, .int (iI ((i : Int) + 1))), (0, .ref 20), (1, .ref 199), (2, .int (iI f))]) dX7_worth_199 rfl rfl (by decide) rfl ?_
            refine ab_goto (tgt := 9) dX7_worth_202 (by decide) ?_
            refine ab_sub (ls' := [(0, .ref 20), (1, .ref 199), (2, .int (iI f)), (3, .int (iI ((i : Int) + 1)))]) (ks := [1, 2, 3, 0]) rfl ?_
            refine ih _ (by omega) (i + 1) f (puS dd st) _ rfl (xh.trans yg89) (ug89.trans th) Pg89 (by omega) (by omega) ?_
            rw [← hV, hdrop, wrt_op (by omega) (by omega) (by omega)]
            congr 1
            unfold sp1
            rw [if_pos (by omega)]
        · skip
          refine ab_aload_n (k := 0) dX7_worth_52 rfl rfl ?_
          refine ab_callV (As := []) (rest := []) dX7_worth_53 lX7_34 rfl (Nat.le_of_ble_eq_true rfl) (Nat.le_of_ble_eq_true rfl) rfl ?_
          have hd53 := hd_R Ph
          refine c_pop0 Ph (fun g53 sg53 tg53 Pg53 => ?_)
          have yg53 := sg53
          have ug53 := tg53
          show ab_X (d + 3) mX7_worth 56 [(0, .ref 20), (1, .ref 199), (2, .int (iI f)), (3, .int (iI (i : Int)))] [.int (iI (st.headD 0))] g53 _
          refine z_if_ne (tgt := 68) dX7_worth_56 (by decide) (by omega) (fun c56 => ?_) (fun c56 => ?_)
          · skip
            refine ab_iload_n (k := 3) dX7_worth_68 rfl rfl ?_
            refine ab_istore_n (ls' := [(2, .int (iI (i : Int))), (0, .ref 20), (1, .ref 199), (3, .int (iI (i : Int)))]) dX7_worth_69 rfl (by decide) rfl ?_
            refine ab_goto (tgt := 199) dX7_worth_70 (by decide) ?_
            refine z_iinc (k := 3) (v := (i : Int) + 1) (ls' := [(3, .int (iI ((i : Int) + 1))), (2, .int (iI (i : Int))), (0, .ref 20), (1, .ref 199)]) dX7_worth_199 rfl rfl (by decide) rfl ?_
            refine ab_goto (tgt := 9) dX7_worth_202 (by decide) ?_
            refine ab_sub (ls' := [(0, .ref 20), (1, .ref 199), (2, .int (iI (i : Int))), (3, .int (iI ((i : Int) + 1)))]) (ks := [2, 3, 1, 0]) rfl ?_
            refine ih _ (by omega) (i + 1) (i : Int) st.tail _ rfl (xh.trans yg53) (ug53.trans th) Pg53 (by omega) (by omega) ?_
            rw [← hV, hdrop, wrt_unl (by omega) (by omega)]
            rw [if_neg (by omega)]
          · skip
            refine ab_aload_n (k := 0) dX7_worth_59 rfl rfl ?_
            refine z_getP (b := 22) dX7_worth_60 fX7_15 rfl rfl rfl ?_
            refine ab_iload_n (k := 3) dX7_worth_63 rfl rfl ?_
            refine z_iald dX7_worth_64 rfl (by omega) (by omega) ?_
            simp only [Int.toNat_natCast]
            refine z_is (y := dd) ((yg53.1 22 i (by decide)).trans hdd) ?_
            refine ab_goto (tgt := 69) dX7_worth_65 (by decide) ?_
            refine ab_istore_n (ls' := [(2, .int (iI dd)), (0, .ref 20), (1, .ref 199), (3, .int (iI (i : Int)))]) dX7_worth_69 rfl (by decide) rfl ?_
            refine ab_goto (tgt := 199) dX7_worth_70 (by decide) ?_
            refine z_iinc (k := 3) (v := (i : Int) + 1) (ls' := [(3, .int (iI ((i : Int) + 1))), (2, .int (iI dd)), (0, .ref 20), (1, .ref 199)]) dX7_worth_199 rfl rfl (by decide) rfl ?_
            refine ab_goto (tgt := 9) dX7_worth_202 (by decide) ?_
            refine ab_sub (ls' := [(0, .ref 20), (1, .ref 199), (2, .int (iI dd)), (3, .int (iI ((i : Int) + 1)))]) (ks := [2, 3, 1, 0]) rfl ?_
            refine ih _ (by omega) (i + 1) dd st.tail _ rfl (xh.trans yg53) (ug53.trans th) Pg53 (by omega) (by omega) ?_
            rw [← hV, hdrop, wrt_unl (by omega) (by omega)]
            rw [if_pos (by omega)]
      · skip
        refine ab_aload_n (k := 0) dX7_worth_36 rfl rfl ?_
        refine ab_callV (As := []) (rest := []) dX7_worth_37 lX7_34 rfl (Nat.le_of_ble_eq_true rfl) (Nat.le_of_ble_eq_true rfl) rfl ?_
        have hd37 := hd_R Ph
        refine c_pop0 Ph (fun g37 sg37 tg37 Pg37 => ?_)
        have yg37 := sg37
        have ug37 := tg37
        show ab_X (d + 3) mX7_worth 40 [(0, .ref 20), (1, .ref 199), (2, .int (iI f)), (3, .int (iI (i : Int)))] [.int (iI (st.headD 0))] g37 _
        refine z_iret dX7_worth_40 rfl ?_
        rw [hdrop, wrt_ans (by omega) (by omega)] at hV
        rw [hV]
        exact K _ (xh.trans yg37) (ug37.trans th)
    · skip
      refine ab_goto (tgt := 199) dX7_worth_22 (by decide) ?_
      refine z_iinc (k := 3) (v := (i : Int) + 1) (ls' := [(3, .int (iI ((i : Int) + 1))), (0, .ref 20), (1, .ref 199), (2, .int (iI f))]) dX7_worth_199 rfl rfl (by decide) rfl ?_
      refine ab_goto (tgt := 9) dX7_worth_202 (by decide) ?_
      refine ab_sub (ls' := [(0, .ref 20), (1, .ref 199), (2, .int (iI f)), (3, .int (iI ((i : Int) + 1)))]) (ks := [1, 2, 3, 0]) rfl ?_
      refine ih _ (by omega) (i + 1) f st h rfl xh th Ph (by omega) hf ?_
      rw [← hV, hdrop, wrt_skip (by omega)]
theorem c_worth0 {d : Nat} {h : ab_H} {Q : ab_Q} {c : List (Int × Int)} {env : Nat → Int} (C0 : CCr 20 h c) (hl : c.length ≤ 160) (hE : ∀ j, j < 5 → zv h 199 j = env j) (K : ∀ h', sm [20, 23] h h' → zv h' 20 3 = zv h 20 3 → Q (some (.int (iI (wrt env c 0 0 [])))) h') : ab_X (d + 3) mX7_worth 0 (lv_args 0 [.ref 20, .ref 199]) [] h Q := by
  show ab_X (d + 3) mX7_worth 0 [(0, .ref 20), (1, .ref 199)] [] h Q
  refine ab_aload_n (k := 0) dX7_worth_0 rfl rfl ?_
  refine z_iconst dX7_worth_1 ?_
  refine z_putI dX7_worth_2 fX7_31 rfl rfl ?_
  refine z_iconst dX7_worth_5 ?_
  refine ab_istore_n (ls' := [(2, .int (iI 0)), (0, .ref 20), (1, .ref 199)]) dX7_worth_6 rfl (by decide) rfl ?_
  refine z_iconst dX7_worth_7 ?_
  refine ab_istore_n (ls' := [(3, .int (iI 0)), (2, .int (iI 0)), (0, .ref 20), (1, .ref 199)]) dX7_worth_8 rfl (by decide) rfl ?_
  refine ab_sub (ls' := [(0, .ref 20), (1, .ref 199), (2, .int (iI 0)), (3, .int (iI 0))]) (ks := [2, 3, 1, 0]) rfl ?_
  have hs0 : sm [20, 23] h (zp h 20 4 0) := sm_zp (by decide)
  have C1 : CCr 20 (zp h 20 4 0) c := ⟨by rw [zv_zp_ne (by decide)]; exact C0.1, fun j hj => by rw [zv_zp_a (by decide), zv_zp_a (by decide)]; exact C0.2 j hj⟩
  exact lp_worth0 C1 hl (fun j hj => by rw [zv_zp_a (by decide)]; exact hE j hj) (fun h' s t => K h' (hs0.trans s) (t.trans (zv_zp_ne (by decide)))) _ 0 0 [] _ rfl sm.refl rfl ⟨by rw [zv_zp_s (by decide)]; rfl, by decide, fun j hj => absurd hj (Nat.not_lt_zero j)⟩ (by omega) (by decide) rfl
theorem lp_worth1 {d : Nat} {Q : ab_Q} {h0 : ab_H} {c : List (Int × Int)} {env : Nat → Int} {V : Int} (C0 : CCr 24 h0 c) (hl : c.length ≤ 160) (hE : ∀ j, j < 5 → zv h0 199 j = env j) (K : ∀ h', sm [24, 27] h0 h' → zv h' 24 3 = zv h0 24 3 → Q (some (.int (iI V))) h') : ∀ (nn : Nat) (i : Nat) (f : Int) (st : List Int) (h : ab_H), c.length - i = nn → (sm [24, 27] h0 h) → (zv h 24 3 = zv h0 24 3) → (PLr 24 h st) → (i ≤ c.length) → (inR f) → (wrt env (c.drop i) i f st = V) → ab_X (d + 3) mX7_worth 9 [(0, .ref 24), (1, .ref 199), (2, .int (iI f)), (3, .int (iI (i : Int)))] [] h Q := by
  intro nn
  induction nn using Nat.strongRecOn with
  | ind nn ih =>
  intro i f st h hnn xh th Ph hi hf hV
  have C : CCr 24 h c := ⟨th.trans C0.1, fun j hj => ⟨(xh.1 25 j (by decide)).trans (C0.2 j hj).1, (xh.1 26 j (by decide)).trans (C0.2 j hj).2⟩⟩
  refine ab_iload_n (k := 3) dX7_worth_9 rfl rfl ?_
  refine ab_aload_n (k := 0) dX7_worth_10 rfl rfl ?_
  refine z_getI dX7_worth_11 fX7_21 rfl (Or.inl rfl) ?_
  refine z_is (y := ((c.length : Nat) : Int)) C.1 ?_
  refine z_icmp_ge (tgt := 205) dX7_worth_14 (by decide) (by omega) (by omega) (fun c14 => ?_) (fun c14 => ?_)
  · skip
    refine z_iconst dX7_worth_205 ?_
    refine z_iret dX7_worth_206 rfl ?_
    have e : c.drop i = [] := List.drop_eq_nil_of_le (by omega)
    rw [e] at hV
    rw [show (0 : Int) = V from hV]
    exact K h xh th
  · skip
    have hic : i < c.length := by omega
    obtain ⟨o, dd, hod⟩ : ∃ o dd, c.getD i (0, 0) = (o, dd) := ⟨_, _, rfl⟩
    have ho : zv h 25 i = o := by have := (C.2 i hic).1; rw [hod] at this; exact this
    have hdd : zv h 26 i = dd := by have := (C.2 i hic).2; rw [hod] at this; exact this
    have hoR := zv_R h 25 i
    rw [ho] at hoR
    have hdR := zv_R h 26 i
    rw [hdd] at hdR
    have hdrop := drop_c hic hod
    refine ab_iload_n (k := 3) dX7_worth_17 rfl rfl ?_
    refine ab_iload_n (k := 2) dX7_worth_18 rfl rfl ?_
    refine z_icmp_ge (tgt := 25) dX7_worth_19 (by decide) (by omega) (by omega) (fun c19 => ?_) (fun c19 => ?_)
    · skip
      refine ab_aload_n (k := 0) dX7_worth_25 rfl rfl ?_
      refine z_getP (b := 25) dX7_worth_26 fX7_9 rfl rfl rfl ?_
      refine ab_iload_n (k := 3) dX7_worth_29 rfl rfl ?_
      refine z_iald dX7_worth_30 rfl (by omega) (by omega) ?_
      simp only [Int.toNat_natCast]
      refine z_is (y := o) ho ?_
      refine z_bipush dX7_worth_31 (by decide) ?_
      refine z_icmp_ne (tgt := 41) dX7_worth_33 (by decide) (by omega) (by decide) (fun c33 => ?_) (fun c33 => ?_)
      · skip
        refine ab_aload_n (k := 0) dX7_worth_41 rfl rfl ?_
        refine z_getP (b := 25) dX7_worth_42 fX7_9 rfl rfl rfl ?_
        refine ab_iload_n (k := 3) dX7_worth_45 rfl rfl ?_
        refine z_iald dX7_worth_46 rfl (by omega) (by omega) ?_
        simp only [Int.toNat_natCast]
        refine z_is (y := o) ho ?_
        refine z_bipush dX7_worth_47 (by decide) ?_
        refine z_icmp_ne (tgt := 73) dX7_worth_49 (by decide) (by omega) (by decide) (fun c49 => ?_) (fun c49 => ?_)
        · skip
          refine ab_aload_n (k := 0) dX7_worth_73 rfl rfl ?_
          refine z_getP (b := 25) dX7_worth_74 fX7_9 rfl rfl rfl ?_
          refine ab_iload_n (k := 3) dX7_worth_77 rfl rfl ?_
          refine z_iald dX7_worth_78 rfl (by omega) (by omega) ?_
          simp only [Int.toNat_natCast]
          refine z_is (y := o) ho ?_
          refine z_if_ne (tgt := 95) dX7_worth_79 (by decide) (by omega) (fun c79 => ?_) (fun c79 => ?_)
          · skip
            refine ab_aload_n (k := 0) dX7_worth_95 rfl rfl ?_
            refine z_getP (b := 25) dX7_worth_96 fX7_9 rfl rfl rfl ?_
            refine ab_iload_n (k := 3) dX7_worth_99 rfl rfl ?_
            refine z_iald dX7_worth_100 rfl (by omega) (by omega) ?_
            simp only [Int.toNat_natCast]
            refine z_is (y := o) ho ?_
            refine z_iconst dX7_worth_101 ?_
            refine z_icmp_ne (tgt := 144) dX7_worth_102 (by decide) (by omega) (by decide) (fun c102 => ?_) (fun c102 => ?_)
            · skip
              refine ab_aload_n (k := 0) dX7_worth_144 rfl rfl ?_
              refine z_getP (b := 25) dX7_worth_145 fX7_9 rfl rfl rfl ?_
              refine ab_iload_n (k := 3) dX7_worth_148 rfl rfl ?_
              refine z_iald dX7_worth_149 rfl (by omega) (by omega) ?_
              simp only [Int.toNat_natCast]
              refine z_is (y := o) ho ?_
              refine z_bipush dX7_worth_150 (by decide) ?_
              refine z_icmp_ne (tgt := 174) dX7_worth_152 (by decide) (by omega) (by decide) (fun c152 => ?_) (fun c152 => ?_)
              · skip
                refine ab_aload_n (k := 0) dX7_worth_174 rfl rfl ?_
                refine ab_callV (As := []) (rest := []) dX7_worth_175 lX7_34 rfl (Nat.le_of_ble_eq_true rfl) (Nat.le_of_ble_eq_true rfl) rfl ?_
                have hd175 := hd_R Ph
                refine c_pop1 Ph (fun g175 sg175 tg175 Pg175 => ?_)
                have yg175 := sg175
                have ug175 := tg175
                show ab_X (d + 3) mX7_worth 178 [(0, .ref 24), (1, .ref 199), (2, .int (iI f)), (3, .int (iI (i : Int)))] [.int (iI (st.headD 0))] g175 _
                refine ab_istore (ls' := [(4, .int (iI (st.headD 0))), (0, .ref 24), (1, .ref 199), (2, .int (iI f)), (3, .int (iI (i : Int)))]) dX7_worth_178 (by decide) rfl ?_
                refine ab_aload_n (k := 1) dX7_worth_180 rfl rfl ?_
                refine ab_aload_n (k := 1) dX7_worth_181 rfl rfl ?_
                refine z_getP (b := 25) dX7_worth_182 fX7_9 rfl rfl rfl ?_
                refine ab_iload_n (k := 4) dX7_worth_185 rfl rfl ?_
                refine z_iald dX7_worth_186 rfl (by omega) (by omega) ?_
                simp only [Int.toNat_natCast]
                refine z_is (y := o) ((yg175.1 25 i (by decide)).trans ho) ?_
                refine ab_aload_n (k := 1) dX7_worth_187 rfl rfl ?_
                refine ab_callV (As := []) (rest := [.int (iI o), .ref 24]) dX7_worth_188 lX7_34 rfl (Nat.le_of_ble_eq_true rfl) (Nat.le_of_ble_eq_true rfl) rfl ?_
                have hd188 := hd_R Pg175
                refine c_pop1 Pg175 (fun g188 sg188 tg188 Pg188 => ?_)
                have yg188 := yg175.trans sg188
                have ug188 := tg188.trans ug175
                show ab_X (d + 3) mX7_worth 191 [(4, .int (iI (st.headD 0))), (0, .ref 24), (1, .ref 199), (2, .int (iI f)), (3, .int (iI (i : Int)))] [.int (iI (st.tail.headD 0)), .int (iI o), .ref 24] g188 _
                refine ab_iload (k := 0) dX7_worth_191 rfl ?_
                refine ab_callS (As := [.int (iI o), .int (iI (st.tail.headD 0)), .int (iI (st.headD 0))]) (rest := [.ref 24]) dX7_worth_193 lX7_42 (Nat.le_of_ble_eq_true rfl) (Nat.le_of_ble_eq_true rfl) rfl ?_
                refine c_joined hoR (by omega) (by omega) ?_
                show ab_X (d + 3) mX7_worth 196 [(4, .int (iI (st.headD 0))), (0, .ref 24), (1, .ref 199), (2, .int (iI f)), (3, .int (iI (i : Int)))] [.int (iI (jn o (st.tail.headD 0) (st.headD 0))), .ref 24] g188 _
                refine ab_callV (As := [.int (iI (jn o (st.tail.headD 0) (st.headD 0)))]) (rest := []) dX7_worth_196 lX7_38 rfl (Nat.le_of_ble_eq_true rfl) (Nat.le_of_ble_eq_true rfl) rfl ?_
                refine c_push1 (jn_R _ _ _) Pg188 (fun g196 sg196 tg196 Pg196 => ?_)
                have yg196 := yg188.trans sg196
                have ug196 := tg196.trans ug188
                show ab_X (d + 3) mX7_worth 199 [(4, .int (iI (st.headD 0))), (0, .ref 24), (1, .ref 199), (2, .int (iI f)), (3, .int (iI (i : Int)))] [] g196 _
                refine z_iinc (k := 4) (v := (i : Int) + 1) (ls' := [(3, .int (iI ((i : Int) + 1))), (4, .int (iI (st.headD 0))), (0, .ref 24), (1, .ref 199), (2, .int (iI f))]) dX7_worth_199 rfl rfl (by decide) rfl ?_
                refine ab_goto (tgt := 9) dX7_worth_202 (by decide) ?_
                refine ab_sub (ls' := [(0, .ref 24), (1, .ref 199), (2, .int (iI f)), (3, .int (iI ((i : Int) + 1)))]) (ks := [2, 3, 4, 0]) rfl ?_
                refine ih _ (by omega) (i + 1) f (puS (jn o (st.tail.headD 0) (st.headD 0)) st.tail.tail) _ rfl (xh.trans yg196) (ug196.trans th) Pg196 (by omega) (by omega) ?_
                rw [← hV, hdrop, wrt_op (by omega) (by omega) (by omega)]
                congr 1
                unfold sp1
                rw [if_neg (by omega), if_neg (by omega), if_neg (by omega)]
              · skip
                refine ab_aload_n (k := 0) dX7_worth_155 rfl rfl ?_
                refine ab_aload_n (k := 0) dX7_worth_156 rfl rfl ?_
                refine ab_callV (As := []) (rest := [.ref 24]) dX7_worth_157 lX7_34 rfl (Nat.le_of_ble_eq_true rfl) (Nat.le_of_ble_eq_true rfl) rfl ?_
                have hd157 := hd_R Ph
                refine c_pop1 Ph (fun g157 sg157 tg157 Pg157 => ?_)
                have yg157 := sg157
                have ug157 := tg157
                show ab_X (d + 3) mX7_worth 160 [(0, .ref 24), (1, .ref 199), (2, .int (iI f)), (3, .int (iI (i : Int)))] [.int (iI (st.headD 0)), .ref 24] g157 _
                refine z_if_ne (tgt := 167) dX7_worth_160 (by decide) (by omega) (fun c160 => ?_) (fun c160 => ?_)
                · skip
                  refine z_iconst dX7_worth_167 ?_
                  refine ab_callV (As := [.int (iI 0)]) (rest := []) dX7_worth_168 lX7_38 rfl (Nat.le_of_ble_eq_true rfl) (Nat.le_of_ble_eq_true rfl) rfl ?_
                  refine c_push1 (by first | omega | decide | exact zv_R _ _ _) Pg157 (fun g168 sg168 tg168 Pg168 => ?_)
                  have yg168 := yg157.trans sg168
                  have ug168 := tg168.trans ug157
                  show ab_X (d + 3) mX7_worth 171 [(0, .ref 24), (1, .ref 199), (2, .int (iI f)), (3, .int (iI (i : Int)))] [] g168 _
                  refine ab_goto (tgt := 199) dX7_worth_171 (by decide) ?_
                  refine z_iinc (k := 3) (v := (i : Int) + 1) (ls' := [(3, .int (iI ((i : Int) + 1))), (0, .ref 24), (1, .ref 199), (2, .int (iI f))]) dX7_worth_199 rfl rfl (by decide) rfl ?_
                  refine ab_goto (tgt := 9) dX7_worth_202 (by decide) ?_
                  refine ab_sub (ls' := [(0, .ref 24), (1, .ref 199), (2, .int (iI f)), (3, .int (iI ((i : Int) + 1)))]) (ks := [1, 2, 3, 0]) rfl ?_
                  refine ih _ (by omega) (i + 1) f (puS 0 st.tail) _ rfl (xh.trans yg168) (ug168.trans th) Pg168 (by omega) (by omega) ?_
                  rw [← hV, hdrop, wrt_op (by omega) (by omega) (by omega)]
                  congr 1
                  unfold sp1
                  rw [if_neg (by omega), if_neg (by omega), if_pos (by omega)]
                  first
                  | rw [if_pos (by omega)]
                  | rw [if_neg (by omega)]
                · skip
                  refine z_iconst dX7_worth_163 ?_
                  refine ab_goto (tgt := 168) dX7_worth_164 (by decide) ?_
                  refine ab_callV (As := [.int (iI 1)]) (rest := []) dX7_worth_168 lX7_38 rfl (Nat.le_of_ble_eq_true rfl) (Nat.le_of_ble_eq_true rfl) rfl ?_
                  refine c_push1 (by first | omega | decide | exact zv_R _ _ _) Pg157 (fun g168 sg168 tg168 Pg168 => ?_)
                  have yg168 := yg157.trans sg168
                  have ug168 := tg168.trans ug157
                  show ab_X (d + 3) mX7_worth 171 [(0, .ref 24), (1, .ref 199), (2, .int (iI f)), (3, .int (iI (i : Int)))] [] g168 _
                  refine ab_goto (tgt := 199) dX7_worth_171 (by decide) ?_
                  refine z_iinc (k := 3) (v := (i : Int) + 1) (ls' := [(3, .int (iI ((i : Int) + 1))), (0, .ref 24), (1, .ref 199), (2, .int (iI f))]) dX7_worth_199 rfl rfl (by decide) rfl ?_
                  refine ab_goto (tgt := 9) dX7_worth_202 (by decide) ?_
                  refine ab_sub (ls' := [(0, .ref 24), (1, .ref 199), (2, .int (iI f)), (3, .int (iI ((i : Int) + 1)))]) (ks := [1, 2, 3, 0]) rfl ?_
                  refine ih _ (by omega) (i + 1) f (puS 1 st.tail) _ rfl (xh.trans yg168) (ug168.trans th) Pg168 (by omega) (by omega) ?_
                  rw [← hV, hdrop, wrt_op (by omega) (by omega) (by omega)]
                  congr 1
                  unfold sp1
                  rw [if_neg (by omega), if_neg (by omega), if_pos (by omega)]
                  first
                  | rw [if_pos (by omega)]
                  | rw [if_neg (by omega)]
            · skip
              refine ab_aload_n (k := 0) dX7_worth_105 rfl rfl ?_
              refine ab_aload_n (k := 0) dX7_worth_106 rfl rfl ?_
              refine z_getP (b := 26) dX7_worth_107 fX7_15 rfl rfl rfl ?_
              refine ab_iload_n (k := 3) dX7_worth_110 rfl rfl ?_
              refine z_iald dX7_worth_111 rfl (by omega) (by omega) ?_
              simp only [Int.toNat_natCast]
              refine z_is (y := dd) hdd ?_
              refine z_if_lt (tgt := 137) dX7_worth_112 (by decide) (by omega) (fun c112 => ?_) (fun c112 => ?_)
              · skip
                refine z_iconst dX7_worth_137 ?_
                refine ab_callV (As := [.int (iI 0)]) (rest := []) dX7_worth_138 lX7_38 rfl (Nat.le_of_ble_eq_true rfl) (Nat.le_of_ble_eq_true rfl) rfl ?_
                refine c_push1 (by first | omega | decide | exact zv_R _ _ _) Ph (fun g138 sg138 tg138 Pg138 => ?_)
                have yg138 := sg138
                have ug138 := tg138
                show ab_X (d + 3) mX7_worth 141 [(0, .ref 24), (1, .ref 199), (2, .int (iI f)), (3, .int (iI (i : Int)))] [] g138 _
                refine ab_goto (tgt := 199) dX7_worth_141 (by decide) ?_
                refine z_iinc (k := 3) (v := (i : Int) + 1) (ls' := [(3, .int (iI ((i : Int) + 1))), (0, .ref 24), (1, .ref 199), (2, .int (iI f))]) dX7_worth_199 rfl rfl (by decide) rfl ?_
                refine ab_goto (tgt := 9) dX7_worth_202 (by decide) ?_
                refine ab_sub (ls' := [(0, .ref 24), (1, .ref 199), (2, .int (iI f)), (3, .int (iI ((i : Int) + 1)))]) (ks := [1, 2, 3, 0]) rfl ?_
                refine ih _ (by omega) (i + 1) f (puS 0 st) _ rfl (xh.trans yg138) (ug138.trans th) Pg138 (by omega) (by omega) ?_
                rw [← hV, hdrop, wrt_op (by omega) (by omega) (by omega)]
                congr 1
                unfold sp1
                rw [if_neg (by omega), if_pos (by omega)]
                first
                | (rw [if_pos (by omega)]; rw [show zv h 199 dd.toNat = env dd.toNat from (xh.1 199 _ (by decide)).trans (hE _ (by omega))])
                | rw [if_neg (by omega)]
              · skip
                refine ab_aload_n (k := 0) dX7_worth_115 rfl rfl ?_
                refine z_getP (b := 26) dX7_worth_116 fX7_15 rfl rfl rfl ?_
                refine ab_iload_n (k := 3) dX7_worth_119 rfl rfl ?_
                refine z_iald dX7_worth_120 rfl (by omega) (by omega) ?_
                simp only [Int.toNat_natCast]
                refine z_is (y := dd) hdd ?_
                refine ab_aload_n (k := 1) dX7_worth_121 rfl rfl ?_
                refine z_alen dX7_worth_122 rfl (Or.inl rfl) ?_
                refine z_icmp_ge (tgt := 137) dX7_worth_123 (by decide) (by omega) (by decide) (fun c123 => ?_) (fun c123 => ?_)
                · skip
                  refine z_iconst dX7_worth_137 ?_
                  refine ab_callV (As := [.int (iI 0)]) (rest := []) dX7_worth_138 lX7_38 rfl (Nat.le_of_ble_eq_true rfl) (Nat.le_of_ble_eq_true rfl) rfl ?_
                  refine c_push1 (by first | omega | decide | exact zv_R _ _ _) Ph (fun g138 sg138 tg138 Pg138 => ?_)
                  have yg138 := sg138
                  have ug138 := tg138
                  show ab_X (d + 3) mX7_worth 141 [(0, .ref 24), (1, .ref 199), (2, .int (iI f)), (3, .int (iI (i : Int)))] [] g138 _
                  refine ab_goto (tgt := 199) dX7_worth_141 (by decide) ?_
                  refine z_iinc (k := 3) (v := (i : Int) + 1) (ls' := [(3, .int (iI ((i : Int) + 1))), (0, .ref 24), (1, .ref 199), (2, .int (iI f))]) dX7_worth_199 rfl rfl (by decide) rfl ?_
                  refine ab_goto (tgt := 9) dX7_worth_202 (by decide) ?_
                  refine ab_sub (ls' := [(0, .ref 24), (1, .ref 199), (2, .int (iI f)), (3, .int (iI ((i : Int) + 1)))]) (ks := [1, 2, 3, 0]) rfl ?_
                  refine ih _ (by omega) (i + 1) f (puS 0 st) _ rfl (xh.trans yg138) (ug138.trans th) Pg138 (by omega) (by omega) ?_
                  rw [← hV, hdrop, wrt_op (by omega) (by omega) (by omega)]
                  congr 1
                  unfold sp1
                  rw [if_neg (by omega), if_pos (by omega)]
                  first
                  | (rw [if_pos (by omega)]; rw [show zv h 199 dd.toNat = env dd.toNat from (xh.1 199 _ (by decide)).trans (hE _ (by omega))])
                  | rw [if_neg (by omega)]
                · skip
                  refine ab_aload_n (k := 1) dX7_worth_126 rfl rfl ?_
                  refine ab_aload_n (k := 0) dX7_worth_127 rfl rfl ?_
                  refine z_getP (b := 26) dX7_worth_128 fX7_15 rfl rfl rfl ?_
                  refine ab_iload_n (k := 3) dX7_worth_131 rfl rfl ?_
                  refine z_iald dX7_worth_132 rfl (by omega) (by omega) ?_
                  simp only [Int.toNat_natCast]
                  refine z_is (y := dd) hdd ?_
                  refine z_iald dX7_worth_133 rfl (by omega) (by omega) ?_
                  have b1 := zv_R h 199 dd.toNat
                  refine ab_goto (tgt := 138) dX7_worth_134 (by decide) ?_
                  refine ab_callV (As := [.int (iI (zv h 199 dd.toNat))]) (rest := []) dX7_worth_138 lX7_38 rfl (Nat.le_of_ble_eq_true rfl) (Nat.le_of_ble_eq_true rfl) rfl ?_
                  refine c_push1 (by first | omega | decide | exact zv_R _ _ _) Ph (fun g138 sg138 tg138 Pg138 => ?_)
                  have yg138 := sg138
                  have ug138 := tg138
                  show ab_X (d + 3) mX7_worth 141 [(0, .ref 24), (1, .ref 199), (2, .int (iI f)), (3, .int (iI (i : Int)))] [] g138 _
                  refine ab_goto (tgt := 199) dX7_worth_141 (by decide) ?_
                  refine z_iinc (k := 3) (v := (i : Int) + 1) (ls' := [(3, .int (iI ((i : Int) + 1))), (0, .ref 24), (1, .ref 199), (2, .int (iI f))]) dX7_worth_199 rfl rfl (by decide) rfl ?_
                  refine ab_goto (tgt := 9) dX7_worth_202 (by decide) ?_
                  refine ab_sub (ls' := [(0, .ref 24), (1, .ref 199), (2, .int (iI f)), (3, .int (iI ((i : Int) + 1)))]) (ks := [1, 2, 3, 0]) rfl ?_
                  refine ih _ (by omega) (i + 1) f (puS (zv h 199 dd.toNat) st) _ rfl (xh.trans yg138) (ug138.trans th) Pg138 (by omega) (by omega) ?_
                  rw [← hV, hdrop, wrt_op (by omega) (by omega) (by omega)]
                  congr 1
                  unfold sp1
                  rw [if_neg (by omega), if_pos (by omega)]
                  first
                  | (rw [if_pos (by omega)]; rw [show zv h 199 dd.toNat = env dd.toNat from (xh.1 199 _ (by decide)).trans (hE _ (by omega))])
                  | rw [if_neg (by omega)]
          · skip
            refine ab_aload_n (k := 0) dX7_worth_82 rfl rfl ?_
            refine ab_aload_n (k := 0) dX7_worth_83 rfl rfl ?_
            refine z_getP (b := 26) dX7_worth_84 fX7_15 rfl rfl rfl ?_
            refine ab_iload_n (k := 3) dX7_worth_87 rfl rfl ?_
            refine z_iald dX7_worth_88 rfl (by omega) (by omega) ?_
            simp only [Int.toNat_natCast]
            refine z_is (y := dd) hdd ?_
            refine ab_callV (As := [.int (iI dd)]) (rest := []) dX7_worth_89 lX7_38 rfl (Nat.le_of_ble_eq_true rfl) (Nat.le_of_ble_eq_true rfl) rfl ?_
            refine c_push1 (by first | omega | decide | exact zv_R _ _ _) Ph (fun g89 sg89 tg89 Pg89 => ?_)
            have yg89 := sg89
            have ug89 := tg89
            show ab_X (d + 3) mX7_worth 92 [(0, .ref 24), (1, .ref 199), (2, .int (iI f)), (3, .int (iI (i : Int)))] [] g89 _
            refine ab_goto (tgt := 199) dX7_worth_92 (by decide) ?_
            refine z_iinc (k := 3) (v := (i : Int) + 1) (ls' := [(3, .int (iI ((i : Int) + 1))), (0, .ref 24), (1, .ref 199), (2, .int (iI f))]) dX7_worth_199 rfl rfl (by decide) rfl ?_
            refine ab_goto (tgt := 9) dX7_worth_202 (by decide) ?_
            refine ab_sub (ls' := [(0, .ref 24), (1, .ref 199), (2, .int (iI f)), (3, .int (iI ((i : Int) + 1)))]) (ks := [1, 2, 3, 0]) rfl ?_
            refine ih _ (by omega) (i + 1) f (puS dd st) _ rfl (xh.trans yg89) (ug89.trans th) Pg89 (by omega) (by omega) ?_
            rw [← hV, hdrop, wrt_op (by omega) (by omega) (by omega)]
            congr 1
            unfold sp1
            rw [if_pos (by omega)]
        · skip
          refine ab_aload_n (k := 0) dX7_worth_52 rfl rfl ?_
          refine ab_callV (As := []) (rest := []) dX7_worth_53 lX7_34 rfl (Nat.le_of_ble_eq_true rfl) (Nat.le_of_ble_eq_true rfl) rfl ?_
          have hd53 := hd_R Ph
          refine c_pop1 Ph (fun g53 sg53 tg53 Pg53 => ?_)
          have yg53 := sg53
          have ug53 := tg53
          show ab_X (d + 3) mX7_worth 56 [(0, .ref 24), (1, .ref 199), (2, .int (iI f)), (3, .int (iI (i : Int)))] [.int (iI (st.headD 0))] g53 _
          refine z_if_ne (tgt := 68) dX7_worth_56 (by decide) (by omega) (fun c56 => ?_) (fun c56 => ?_)
          · skip
            refine ab_iload_n (k := 3) dX7_worth_68 rfl rfl ?_
            refine ab_istore_n (ls' := [(2, .int (iI (i : Int))), (0, .ref 24), (1, .ref 199), (3, .int (iI (i : Int)))]) dX7_worth_69 rfl (by decide) rfl ?_
            refine ab_goto (tgt := 199) dX7_worth_70 (by decide) ?_
            refine z_iinc (k := 3) (v := (i : Int) + 1) (ls' := [(3, .int (iI ((i : Int) + 1))), (2, .int (iI (i : Int))), (0, .ref 24), (1, .ref 199)]) dX7_worth_199 rfl rfl (by decide) rfl ?_
            refine ab_goto (tgt := 9) dX7_worth_202 (by decide) ?_
            refine ab_sub (ls' := [(0, .ref 24), (1, .ref 199), (2, .int (iI (i : Int))), (3, .int (iI ((i : Int) + 1)))]) (ks := [2, 3, 1, 0]) rfl ?_
            refine ih _ (by omega) (i + 1) (i : Int) st.tail _ rfl (xh.trans yg53) (ug53.trans th) Pg53 (by omega) (by omega) ?_
            rw [← hV, hdrop, wrt_unl (by omega) (by omega)]
            rw [if_neg (by omega)]
          · skip
            refine ab_aload_n (k := 0) dX7_worth_59 rfl rfl ?_
            refine z_getP (b := 26) dX7_worth_60 fX7_15 rfl rfl rfl ?_
            refine ab_iload_n (k := 3) dX7_worth_63 rfl rfl ?_
            refine z_iald dX7_worth_64 rfl (by omega) (by omega) ?_
            simp only [Int.toNat_natCast]
            refine z_is (y := dd) ((yg53.1 26 i (by decide)).trans hdd) ?_
            refine ab_goto (tgt := 69) dX7_worth_65 (by decide) ?_
            refine ab_istore_n (ls' := [(2, .int (iI dd)), (0, .ref 24), (1, .ref 199), (3, .int (iI (i : Int)))]) dX7_worth_69 rfl (by decide) rfl ?_
            refine ab_goto (tgt := 199) dX7_worth_70 (by decide) ?_
            refine z_iinc (k := 3) (v := (i : Int) + 1) (ls' := [(3, .int (iI ((i : Int) + 1))), (2, .int (iI dd)), (0, .ref 24), (1, .ref 199)]) dX7_worth_199 rfl rfl (by decide) rfl ?_
            refine ab_goto (tgt := 9) dX7_worth_202 (by decide) ?_
            refine ab_sub (ls' := [(0, .ref 24), (1, .ref 199), (2, .int (iI dd)), (3, .int (iI ((i : Int) + 1)))]) (ks := [2, 3, 1, 0]) rfl ?_
            refine ih _ (by omega) (i + 1) dd st.tail _ rfl (xh.trans yg53) (ug53.trans th) Pg53 (by omega) (by omega) ?_
            rw [← hV, hdrop, wrt_unl (by omega) (by omega)]
            rw [if_pos (by omega)]
      · skip
        refine ab_aload_n (k := 0) dX7_worth_36 rfl rfl ?_
        refine ab_callV (As := []) (rest := []) dX7_worth_37 lX7_34 rfl (Nat.le_of_ble_eq_true rfl) (Nat.le_of_ble_eq_true rfl) rfl ?_
        have hd37 := hd_R Ph
        refine c_pop1 Ph (fun g37 sg37 tg37 Pg37 => ?_)
        have yg37 := sg37
        have ug37 := tg37
        show ab_X (d + 3) mX7_worth 40 [(0, .ref 24), (1, .ref 199), (2, .int (iI f)), (3, .int (iI (i : Int)))] [.int (iI (st.headD 0))] g37 _
        refine z_iret dX7_worth_40 rfl ?_
        rw [hdrop, wrt_ans (by omega) (by omega)] at hV
        rw [hV]
        exact K _ (xh.trans yg37) (ug37.trans th)
    · skip
      refine ab_goto (tgt := 199) dX7_worth_22 (by decide) ?_
      refine z_iinc (k := 3) (v := (i : Int) + 1) (ls' := [(3, .int (iI ((i : Int) + 1))), (0, .ref 24), (1, .ref 199), (2, .int (iI f))]) dX7_worth_199 rfl rfl (by decide) rfl ?_
      refine ab_goto (tgt := 9) dX7_worth_202 (by decide) ?_
      refine ab_sub (ls' := [(0, .ref 24), (1, .ref 199), (2, .int (iI f)), (3, .int (iI ((i : Int) + 1)))]) (ks := [1, 2, 3, 0]) rfl ?_
      refine ih _ (by omega) (i + 1) f st h rfl xh th Ph (by omega) hf ?_
      rw [← hV, hdrop, wrt_skip (by omega)]
theorem c_worth1 {d : Nat} {h : ab_H} {Q : ab_Q} {c : List (Int × Int)} {env : Nat → Int} (C0 : CCr 24 h c) (hl : c.length ≤ 160) (hE : ∀ j, j < 5 → zv h 199 j = env j) (K : ∀ h', sm [24, 27] h h' → zv h' 24 3 = zv h 24 3 → Q (some (.int (iI (wrt env c 0 0 [])))) h') : ab_X (d + 3) mX7_worth 0 (lv_args 0 [.ref 24, .ref 199]) [] h Q := by
  show ab_X (d + 3) mX7_worth 0 [(0, .ref 24), (1, .ref 199)] [] h Q
  refine ab_aload_n (k := 0) dX7_worth_0 rfl rfl ?_
  refine z_iconst dX7_worth_1 ?_
  refine z_putI dX7_worth_2 fX7_31 rfl rfl ?_
  refine z_iconst dX7_worth_5 ?_
  refine ab_istore_n (ls' := [(2, .int (iI 0)), (0, .ref 24), (1, .ref 199)]) dX7_worth_6 rfl (by decide) rfl ?_
  refine z_iconst dX7_worth_7 ?_
  refine ab_istore_n (ls' := [(3, .int (iI 0)), (2, .int (iI 0)), (0, .ref 24), (1, .ref 199)]) dX7_worth_8 rfl (by decide) rfl ?_
  refine ab_sub (ls' := [(0, .ref 24), (1, .ref 199), (2, .int (iI 0)), (3, .int (iI 0))]) (ks := [2, 3, 1, 0]) rfl ?_
  have hs0 : sm [24, 27] h (zp h 24 4 0) := sm_zp (by decide)
  have C1 : CCr 24 (zp h 24 4 0) c := ⟨by rw [zv_zp_ne (by decide)]; exact C0.1, fun j hj => by rw [zv_zp_a (by decide), zv_zp_a (by decide)]; exact C0.2 j hj⟩
  exact lp_worth1 C1 hl (fun j hj => by rw [zv_zp_a (by decide)]; exact hE j hj) (fun h' s t => K h' (hs0.trans s) (t.trans (zv_zp_ne (by decide)))) _ 0 0 [] _ rfl sm.refl rfl ⟨by rw [zv_zp_s (by decide)]; rfl, by decide, fun j hj => absurd hj (Nat.not_lt_zero j)⟩ (by omega) (by decide) rfl
theorem lp_worth2 {d : Nat} {Q : ab_Q} {h0 : ab_H} {c : List (Int × Int)} {env : Nat → Int} {V : Int} (C0 : CCr 28 h0 c) (hl : c.length ≤ 160) (hE : ∀ j, j < 5 → zv h0 199 j = env j) (K : ∀ h', sm [28, 31] h0 h' → zv h' 28 3 = zv h0 28 3 → Q (some (.int (iI V))) h') : ∀ (nn : Nat) (i : Nat) (f : Int) (st : List Int) (h : ab_H), c.length - i = nn → (sm [28, 31] h0 h) → (zv h 28 3 = zv h0 28 3) → (PLr 28 h st) → (i ≤ c.length) → (inR f) → (wrt env (c.drop i) i f st = V) → ab_X (d + 3) mX7_worth 9 [(0, .ref 28), (1, .ref 199), (2, .int (iI f)), (3, .int (iI (i : Int)))] [] h Q := by
  intro nn
  induction nn using Nat.strongRecOn with
  | ind nn ih =>
  intro i f st h hnn xh th Ph hi hf hV
  have C : CCr 28 h c := ⟨th.trans C0.1, fun j hj => ⟨(xh.1 29 j (by decide)).trans (C0.2 j hj).1, (xh.1 30 j (by decide)).trans (C0.2 j hj).2⟩⟩
  refine ab_iload_n (k := 3) dX7_worth_9 rfl rfl ?_
  refine ab_aload_n (k := 0) dX7_worth_10 rfl rfl ?_
  refine z_getI dX7_worth_11 fX7_21 rfl (Or.inl rfl) ?_
  refine z_is (y := ((c.length : Nat) : Int)) C.1 ?_
  refine z_icmp_ge (tgt := 205) dX7_worth_14 (by decide) (by omega) (by omega) (fun c14 => ?_) (fun c14 => ?_)
  · skip
    refine z_iconst dX7_worth_205 ?_
    refine z_iret dX7_worth_206 rfl ?_
    have e : c.drop i = [] := List.drop_eq_nil_of_le (by omega)
    rw [e] at hV
    rw [show (0 : Int) = V from hV]
    exact K h xh th
  · skip
    have hic : i < c.length := by omega
    obtain ⟨o, dd, hod⟩ : ∃ o dd, c.getD i (0, 0) = (o, dd) := ⟨_, _, rfl⟩
    have ho : zv h 29 i = o := by have := (C.2 i hic).1; rw [hod] at this; exact this
    have hdd : zv h 30 i = dd := by have := (C.2 i hic).2; rw [hod] at this; exact this
    have hoR := zv_R h 29 i
    rw [ho] at hoR
    have hdR := zv_R h 30 i
    rw [hdd] at hdR
    have hdrop := drop_c hic hod
    refine ab_iload_n (k := 3) dX7_worth_17 rfl rfl ?_
    refine ab_iload_n (k := 2) dX7_worth_18 rfl rfl ?_
    refine z_icmp_ge (tgt := 25) dX7_worth_19 (by decide) (by omega) (by omega) (fun c19 => ?_) (fun c19 => ?_)
    · skip
      refine ab_aload_n (k := 0) dX7_worth_25 rfl rfl ?_
      refine z_getP (b := 29) dX7_worth_26 fX7_9 rfl rfl rfl ?_
      refine ab_iload_n (k := 3) dX7_worth_29 rfl rfl ?_
      refine z_iald dX7_worth_30 rfl (by omega) (by omega) ?_
      simp only [Int.toNat_natCast]
      refine z_is (y := o) ho ?_
      refine z_bipush dX7_worth_31 (by decide) ?_
      refine z_icmp_ne (tgt := 41) dX7_worth_33 (by decide) (by omega) (by decide) (fun c33 => ?_) (fun c33 => ?_)
      · skip
        refine ab_aload_n (k := 0) dX7_worth_41 rfl rfl ?_
        refine z_getP (b := 29) dX7_worth_42 fX7_9 rfl rfl rfl ?_
        refine ab_iload_n (k := 3) dX7_worth_45 rfl rfl ?_
        refine z_iald dX7_worth_46 rfl (by omega) (by omega) ?_
        simp only [Int.toNat_natCast]
        refine z_is (y := o) ho ?_
        refine z_bipush dX7_worth_47 (by decide) ?_
        refine z_icmp_ne (tgt := 73) dX7_worth_49 (by decide) (by omega) (by decide) (fun c49 => ?_) (fun c49 => ?_)
        · skip
          refine ab_aload_n (k := 0) dX7_worth_73 rfl rfl ?_
          refine z_getP (b := 29) dX7_worth_74 fX7_9 rfl rfl rfl ?_
          refine ab_iload_n (k := 3) dX7_worth_77 rfl rfl ?_
          refine z_iald dX7_worth_78 rfl (by omega) (by omega) ?_
          simp only [Int.toNat_natCast]
          refine z_is (y := o) ho ?_
          refine z_if_ne (tgt := 95) dX7_worth_79 (by decide) (by omega) (fun c79 => ?_) (fun c79 => ?_)
          · skip
            refine ab_aload_n (k := 0) dX7_worth_95 rfl rfl ?_
            refine z_getP (b := 29) dX7_worth_96 fX7_9 rfl rfl rfl ?_
            refine ab_iload_n (k := 3) dX7_worth_99 rfl rfl ?_
            refine z_iald dX7_worth_100 rfl (by omega) (by omega) ?_
            simp only [Int.toNat_natCast]
            refine z_is (y := o) ho ?_
            refine z_iconst dX7_worth_101 ?_
            refine z_icmp_ne (tgt := 144) dX7_worth_102 (by decide) (by omega) (by decide) (fun c102 => ?_) (fun c102 => ?_)
            · skip
              refine ab_aload_n (k := 0) dX7_worth_144 rfl rfl ?_
              refine z_getP (b := 29) dX7_worth_145 fX7_9 rfl rfl rfl ?_
              refine ab_iload_n (k := 3) dX7_worth_148 rfl rfl ?_
              refine z_iald dX7_worth_149 rfl (by omega) (by omega) ?_
              simp only [Int.toNat_natCast]
              refine z_is (y := o) ho ?_
              refine z_bipush dX7_worth_150 (by decide) ?_
              refine z_icmp_ne (tgt := 174) dX7_worth_152 (by decide) (by omega) (by decide) (fun c152 => ?_) (fun c152 => ?_)
              · skip
                refine ab_aload_n (k := 0) dX7_worth_174 rfl rfl ?_
                refine ab_callV (As := []) (rest := []) dX7_worth_175 lX7_34 rfl (Nat.le_of_ble_eq_true rfl) (Nat.le_of_ble_eq_true rfl) rfl ?_
                have hd175 := hd_R Ph
                refine c_pop2 Ph (fun g175 sg175 tg175 Pg175 => ?_)
                have yg175 := sg175
                have ug175 := tg175
                show ab_X (d + 3) mX7_worth 178 [(0, .ref 28), (1, .ref 199), (2, .int (iI f)), (3, .int (iI (i : Int)))] [.int (iI (st.headD 0))] g175 _
                refine ab_istore (ls' := [(4, .int (iI (st.headD 0))), (0, .ref 28), (1, .ref 199), (2, .int (iI f)), (3, .int (iI (i : Int)))]) dX7_worth_178 (by decide) rfl ?_
                refine ab_aload_n (k := 1) dX7_worth_180 rfl rfl ?_
                refine ab_aload_n (k := 1) dX7_worth_181 rfl rfl ?_
                refine z_getP (b := 29) dX7_worth_182 fX7_9 rfl rfl rfl ?_
                refine ab_iload_n (k := 4) dX7_worth_185 rfl rfl ?_
                refine z_iald dX7_worth_186 rfl (by omega) (by omega) ?_
                simp only [Int.toNat_natCast]
                refine z_is (y := o) ((yg175.1 29 i (by decide)).trans ho) ?_
                refine ab_aload_n (k := 1) dX7_worth_187 rfl rfl ?_
                refine ab_callV (As := []) (rest := [.int (iI o), .ref 28]) dX7_worth_188 lX7_34 rfl (Nat.le_of_ble_eq_true rfl) (Nat.le_of_ble_eq_true rfl) rfl ?_
                have hd188 := hd_R Pg175
                refine c_pop2 Pg175 (fun g188 sg188 tg188 Pg188 => ?_)
                have yg188 := yg175.trans sg188
                have ug188 := tg188.trans ug175
                show ab_X (d + 3) mX7_worth 191 [(4, .int (iI (st.headD 0))), (0, .ref 28), (1, .ref 199), (2, .int (iI f)), (3, .int (iI (i : Int)))] [.int (iI (st.tail.headD 0)), .int (iI o), .ref 28] g188 _
                refine ab_iload (k := 0) dX7_worth_191 rfl ?_
                refine ab_callS (As := [.int (iI o), .int (iI (st.tail.headD 0)), .int (iI (st.headD 0))]) (rest := [.ref 28]) dX7_worth_193 lX7_42 (Nat.le_of_ble_eq_true rfl) (Nat.le_of_ble_eq_true rfl) rfl ?_
                refine c_joined hoR (by omega) (by omega) ?_
                show ab_X (d + 3) mX7_worth 196 [(4, .int (iI (st.headD 0))), (0, .ref 28), (1, .ref 199), (2, .int (iI f)), (3, .int (iI (i : Int)))] [.int (iI (jn o (st.tail.headD 0) (st.headD 0))), .ref 28] g188 _
                refine ab_callV (As := [.int (iI (jn o (st.tail.headD 0) (st.headD 0)))]) (rest := []) dX7_worth_196 lX7_38 rfl (Nat.le_of_ble_eq_true rfl) (Nat.le_of_ble_eq_true rfl) rfl ?_
                refine c_push2 (jn_R _ _ _) Pg188 (fun g196 sg196 tg196 Pg196 => ?_)
                have yg196 := yg188.trans sg196
                have ug196 := tg196.trans ug188
                show ab_X (d + 3) mX7_worth 199 [(4, .int (iI (st.headD 0))), (0, .ref 28), (1, .ref 199), (2, .int (iI f)), (3, .int (iI (i : Int)))] [] g196 _
                refine z_iinc (k := 4) (v := (i : Int) + 1) (ls' := [(3, .int (iI ((i : Int) + 1))), (4, .int (iI (st.headD 0))), (0, .ref 28), (1, .ref 199), (2, .int (iI f))]) dX7_worth_199 rfl rfl (by decide) rfl ?_
                refine ab_goto (tgt := 9) dX7_worth_202 (by decide) ?_
                refine ab_sub (ls' := [(0, .ref 28), (1, .ref 199), (2, .int (iI f)), (3, .int (iI ((i : Int) + 1)))]) (ks := [2, 3, 4, 0]) rfl ?_
                refine ih _ (by omega) (i + 1) f (puS (jn o (st.tail.headD 0) (st.headD 0)) st.tail.tail) _ rfl (xh.trans yg196) (ug196.trans th) Pg196 (by omega) (by omega) ?_
                rw [← hV, hdrop, wrt_op (by omega) (by omega) (by omega)]
                congr 1
                unfold sp1
                rw [if_neg (by omega), if_neg (by omega), if_neg (by omega)]
              · skip
                refine ab_aload_n (k := 0) dX7_worth_155 rfl rfl ?_
                refine ab_aload_n (k := 0) dX7_worth_156 rfl rfl ?_
                refine ab_callV (As := []) (rest := [.ref 28]) dX7_worth_157 lX7_34 rfl (Nat.le_of_ble_eq_true rfl) (Nat.le_of_ble_eq_true rfl) rfl ?_
                have hd157 := hd_R Ph
                refine c_pop2 Ph (fun g157 sg157 tg157 Pg157 => ?_)
                have yg157 := sg157
                have ug157 := tg157
                show ab_X (d + 3) mX7_worth 160 [(0, .ref 28), (1, .ref 199), (2, .int (iI f)), (3, .int (iI (i : Int)))] [.int (iI (st.headD 0)), .ref 28] g157 _
                refine z_if_ne (tgt := 167) dX7_worth_160 (by decide) (by omega) (fun c160 => ?_) (fun c160 => ?_)
                · skip
                  refine z_iconst dX7_worth_167 ?_
                  refine ab_callV (As := [.int (iI 0)]) (rest := []) dX7_worth_168 lX7_38 rfl (Nat.le_of_ble_eq_true rfl) (Nat.le_of_ble_eq_true rfl) rfl ?_
                  refine c_push2 (by first | omega | decide | exact zv_R _ _ _) Pg157 (fun g168 sg168 tg168 Pg168 => ?_)
                  have yg168 := yg157.trans sg168
                  have ug168 := tg168.trans ug157
                  show ab_X (d + 3) mX7_worth 171 [(0, .ref 28), (1, .ref 199), (2, .int (iI f)), (3, .int (iI (i : Int)))] [] g168 _
                  refine ab_goto (tgt := 199) dX7_worth_171 (by decide) ?_
                  refine z_iinc (k := 3) (v := (i : Int) + 1) (ls' := [(3, .int (iI ((i : Int) + 1))), (0, .ref 28), (1, .ref 199), (2, .int (iI f))]) dX7_worth_199 rfl rfl (by decide) rfl ?_
                  refine ab_goto (tgt := 9) dX7_worth_202 (by decide) ?_
                  refine ab_sub (ls' := [(0, .ref 28), (1, .ref 199), (2, .int (iI f)), (3, .int (iI ((i : Int) + 1)))]) (ks := [1, 2, 3, 0]) rfl ?_
                  refine ih _ (by omega) (i + 1) f (puS 0 st.tail) _ rfl (xh.trans yg168) (ug168.trans th) Pg168 (by omega) (by omega) ?_
                  rw [← hV, hdrop, wrt_op (by omega) (by omega) (by omega)]
                  congr 1
                  unfold sp1
                  rw [if_neg (by omega), if_neg (by omega), if_pos (by omega)]
                  first
                  | rw [if_pos (by omega)]
                  | rw [if_neg (by omega)]
                · skip
                  refine z_iconst dX7_worth_163 ?_
                  refine ab_goto (tgt := 168) dX7_worth_164 (by decide) ?_
                  refine ab_callV (As := [.int (iI 1)]) (rest := []) dX7_worth_168 lX7_38 rfl (Nat.le_of_ble_eq_true rfl) (Nat.le_of_ble_eq_true rfl) rfl ?_
                  refine c_push2 (by first | omega | decide | exact zv_R _ _ _) Pg157 (fun g168 sg168 tg168 Pg168 => ?_)
                  have yg168 := yg157.trans sg168
                  have ug168 := tg168.trans ug157
                  show ab_X (d + 3) mX7_worth 171 [(0, .ref 28), (1, .ref 199), (2, .int (iI f)), (3, .int (iI (i : Int)))] [] g168 _
                  refine ab_goto (tgt := 199) dX7_worth_171 (by decide) ?_
                  refine z_iinc (k := 3) (v := (i : Int) + 1) (ls' := [(3, .int (iI ((i : Int) + 1))), (0, .ref 28), (1, .ref 199), (2, .int (iI f))]) dX7_worth_199 rfl rfl (by decide) rfl ?_
                  refine ab_goto (tgt := 9) dX7_worth_202 (by decide) ?_
                  refine ab_sub (ls' := [(0, .ref 28), (1, .ref 199), (2, .int (iI f)), (3, .int (iI ((i : Int) + 1)))]) (ks := [1, 2, 3, 0]) rfl ?_
                  refine ih _ (by omega) (i + 1) f (puS 1 st.tail) _ rfl (xh.trans yg168) (ug168.trans th) Pg168 (by omega) (by omega) ?_
                  rw [← hV, hdrop, wrt_op (by omega) (by omega) (by omega)]
                  congr 1
                  unfold sp1
                  rw [if_neg (by omega), if_neg (by omega), if_pos (by omega)]
                  first
                  | rw [if_pos (by omega)]
                  | rw [if_neg (by omega)]
            · skip
              refine ab_aload_n (k := 0) dX7_worth_105 rfl rfl ?_
              refine ab_aload_n (k := 0) dX7_worth_106 rfl rfl ?_
              refine z_getP (b := 30) dX7_worth_107 fX7_15 rfl rfl rfl ?_
              refine ab_iload_n (k := 3) dX7_worth_110 rfl rfl ?_
              refine z_iald dX7_worth_111 rfl (by omega) (by omega) ?_
              simp only [Int.toNat_natCast]
              refine z_is (y := dd) hdd ?_
              refine z_if_lt (tgt := 137) dX7_worth_112 (by decide) (by omega) (fun c112 => ?_) (fun c112 => ?_)
              · skip
                refine z_iconst dX7_worth_137 ?_
                refine ab_callV (As := [.int (iI 0)]) (rest := []) dX7_worth_138 lX7_38 rfl (Nat.le_of_ble_eq_true rfl) (Nat.le_of_ble_eq_true rfl) rfl ?_
                refine c_push2 (by first | omega | decide | exact zv_R _ _ _) Ph (fun g138 sg138 tg138 Pg138 => ?_)
                have yg138 := sg138
                have ug138 := tg138
                show ab_X (d + 3) mX7_worth 141 [(0, .ref 28), (1, .ref 199), (2, .int (iI f)), (3, .int (iI (i : Int)))] [] g138 _
                refine ab_goto (tgt := 199) dX7_worth_141 (by decide) ?_
                refine z_iinc (k := 3) (v := (i : Int) + 1) (ls' := [(3, .int (iI ((i : Int) + 1))), (0, .ref 28), (1, .ref 199), (2, .int (iI f))]) dX7_worth_199 rfl rfl (by decide) rfl ?_
                refine ab_goto (tgt := 9) dX7_worth_202 (by decide) ?_
                refine ab_sub (ls' := [(0, .ref 28), (1, .ref 199), (2, .int (iI f)), (3, .int (iI ((i : Int) + 1)))]) (ks := [1, 2, 3, 0]) rfl ?_
                refine ih _ (by omega) (i + 1) f (puS 0 st) _ rfl (xh.trans yg138) (ug138.trans th) Pg138 (by omega) (by omega) ?_
                rw [← hV, hdrop, wrt_op (by omega) (by omega) (by omega)]
                congr 1
                unfold sp1
                rw [if_neg (by omega), if_pos (by omega)]
                first
                | (rw [if_pos (by omega)]; rw [show zv h 199 dd.toNat = env dd.toNat from (xh.1 199 _ (by decide)).trans (hE _ (by omega))])
                | rw [if_neg (by omega)]
              · skip
                refine ab_aload_n (k := 0) dX7_worth_115 rfl rfl ?_
                refine z_getP (b := 30) dX7_worth_116 fX7_15 rfl rfl rfl ?_
                refine ab_iload_n (k := 3) dX7_worth_119 rfl rfl ?_
                refine z_iald dX7_worth_120 rfl (by omega) (by omega) ?_
                simp only [Int.toNat_natCast]
                refine z_is (y := dd) hdd ?_
                refine ab_aload_n (k := 1) dX7_worth_121 rfl rfl ?_
                refine z_alen dX7_worth_122 rfl (Or.inl rfl) ?_
                refine z_icmp_ge (tgt := 137) dX7_worth_123 (by decide) (by omega) (by decide) (fun c123 => ?_) (fun c123 => ?_)
                · skip
                  refine z_iconst dX7_worth_137 ?_
                  refine ab_callV (As := [.int (iI 0)]) (rest := []) dX7_worth_138 lX7_38 rfl (Nat.le_of_ble_eq_true rfl) (Nat.le_of_ble_eq_true rfl) rfl ?_
                  refine c_push2 (by first | omega | decide | exact zv_R _ _ _) Ph (fun g138 sg138 tg138 Pg138 => ?_)
                  have yg138 := sg138
                  have ug138 := tg138
                  show ab_X (d + 3) mX7_worth 141 [(0, .ref 28), (1, .ref 199), (2, .int (iI f)), (3, .int (iI (i : Int)))] [] g138 _
                  refine ab_goto (tgt := 199) dX7_worth_141 (by decide) ?_
                  refine z_iinc (k := 3) (v := (i : Int) + 1) (ls' := [(3, .int (iI ((i : Int) + 1))), (0, .ref 28), (1, .ref 199), (2, .int (iI f))]) dX7_worth_199 rfl rfl (by decide) rfl ?_
                  refine ab_goto (tgt := 9) dX7_worth_202 (by decide) ?_
                  refine ab_sub (ls' := [(0, .ref 28), (1, .ref 199), (2, .int (iI f)), (3, .int (iI ((i : Int) + 1)))]) (ks := [1, 2, 3, 0]) rfl ?_
                  refine ih _ (by omega) (i + 1) f (puS 0 st) _ rfl (xh.trans yg138) (ug138.trans th) Pg138 (by omega) (by omega) ?_
                  rw [← hV, hdrop, wrt_op (by omega) (by omega) (by omega)]
                  congr 1
                  unfold sp1
                  rw [if_neg (by omega), if_pos (by omega)]
                  first
                  | (rw [if_pos (by omega)]; rw [show zv h 199 dd.toNat = env dd.toNat from (xh.1 199 _ (by decide)).trans (hE _ (by omega))])
                  | rw [if_neg (by omega)]
                · skip
                  refine ab_aload_n (k := 1) dX7_worth_126 rfl rfl ?_
                  refine ab_aload_n (k := 0) dX7_worth_127 rfl rfl ?_
                  refine z_getP (b := 30) dX7_worth_128 fX7_15 rfl rfl rfl ?_
                  refine ab_iload_n (k := 3) dX7_worth_131 rfl rfl ?_
                  refine z_iald dX7_worth_132 rfl (by omega) (by omega) ?_
                  simp only [Int.toNat_natCast]
                  refine z_is (y := dd) hdd ?_
                  refine z_iald dX7_worth_133 rfl (by omega) (by omega) ?_
                  have b1 := zv_R h 199 dd.toNat
                  refine ab_goto (tgt := 138) dX7_worth_134 (by decide) ?_
                  refine ab_callV (As := [.int (iI (zv h 199 dd.toNat))]) (rest := []) dX7_worth_138 lX7_38 rfl (Nat.le_of_ble_eq_true rfl) (Nat.le_of_ble_eq_true rfl) rfl ?_
                  refine c_push2 (by first | omega | decide | exact zv_R _ _ _) Ph (fun g138 sg138 tg138 Pg138 => ?_)
                  have yg138 := sg138
                  have ug138 := tg138
                  show ab_X (d + 3) mX7_worth 141 [(0, .ref 28), (1, .ref 199), (2, .int (iI f)), (3, .int (iI (i : Int)))] [] g138 _
                  refine ab_goto (tgt := 199) dX7_worth_141 (by decide) ?_
                  refine z_iinc (k := 3) (v := (i : Int) + 1) (ls' := [(3, .int (iI ((i : Int) + 1))), (0, .ref 28), (1, .ref 199), (2, .int (iI f))]) dX7_worth_199 rfl rfl (by decide) rfl ?_
                  refine ab_goto (tgt := 9) dX7_worth_202 (by decide) ?_
                  refine ab_sub (ls' := [(0, .ref 28), (1, .ref 199), (2, .int (iI f)), (3, .int (iI ((i : Int) + 1)))]) (ks := [1, 2, 3, 0]) rfl ?_
                  refine ih _ (by omega) (i + 1) f (puS (zv h 199 dd.toNat) st) _ rfl (xh.trans yg138) (ug138.trans th) Pg138 (by omega) (by omega) ?_
                  rw [← hV, hdrop, wrt_op (by omega) (by omega) (by omega)]
                  congr 1
                  unfold sp1
                  rw [if_neg (by omega), if_pos (by omega)]
                  first
                  | (rw [if_pos (by omega)]; rw [show zv h 199 dd.toNat = env dd.toNat from (xh.1 199 _ (by decide)).trans (hE _ (by omega))])
                  | rw [if_neg (by omega)]
          · skip
            refine ab_aload_n (k := 0) dX7_worth_82 rfl rfl ?_
            refine ab_aload_n (k := 0) dX7_worth_83 rfl rfl ?_
            refine z_getP (b := 30) dX7_worth_84 fX7_15 rfl rfl rfl ?_
            refine ab_iload_n (k := 3) dX7_worth_87 rfl rfl ?_
            refine z_iald dX7_worth_88 rfl (by omega) (by omega) ?_
            simp only [Int.toNat_natCast]
            refine z_is (y := dd) hdd ?_
            refine ab_callV (As := [.int (iI dd)]) (rest := []) dX7_worth_89 lX7_38 rfl (Nat.le_of_ble_eq_true rfl) (Nat.le_of_ble_eq_true rfl) rfl ?_
            refine c_push2 (by first | omega | decide | exact zv_R _ _ _) Ph (fun g89 sg89 tg89 Pg89 => ?_)
            have yg89 := sg89
            have ug89 := tg89
            show ab_X (d + 3) mX7_worth 92 [(0, .ref 28), (1, .ref 199), (2, .int (iI f)), (3, .int (iI (i : Int)))] [] g89 _
            refine ab_goto (tgt := 199) dX7_worth_92 (by decide) ?_
            refine z_iinc (k := 3) (v := (i : Int) + 1) (ls' := [(3, .int (iI ((i : Int) + 1))), (0, .ref 28), (1, .ref 199), (2, .int (iI f))]) dX7_worth_199 rfl rfl (by decide) rfl ?_
            refine ab_goto (tgt := 9) dX7_worth_202 (by decide) ?_
            refine ab_sub (ls' := [(0, .ref 28), (1, .ref 199), (2, .int (iI f)), (3, .int (iI ((i : Int) + 1)))]) (ks := [1, 2, 3, 0]) rfl ?_
            refine ih _ (by omega) (i + 1) f (puS dd st) _ rfl (xh.trans yg89) (ug89.trans th) Pg89 (by omega) (by omega) ?_
            rw [← hV, hdrop, wrt_op (by omega) (by omega) (by omega)]
            congr 1
            unfold sp1
            rw [if_pos (by omega)]
        · skip
          refine ab_aload_n (k := 0) dX7_worth_52 rfl rfl ?_
          refine ab_callV (As := []) (rest := []) dX7_worth_53 lX7_34 rfl (Nat.le_of_ble_eq_true rfl) (Nat.le_of_ble_eq_true rfl) rfl ?_
          have hd53 := hd_R Ph
          refine c_pop2 Ph (fun g53 sg53 tg53 Pg53 => ?_)
          have yg53 := sg53
          have ug53 := tg53
          show ab_X (d + 3) mX7_worth 56 [(0, .ref 28), (1, .ref 199), (2, .int (iI f)), (3, .int (iI (i : Int)))] [.int (iI (st.headD 0))] g53 _
          refine z_if_ne (tgt := 68) dX7_worth_56 (by decide) (by omega) (fun c56 => ?_) (fun c56 => ?_)
          · skip
            refine ab_iload_n (k := 3) dX7_worth_68 rfl rfl ?_
            refine ab_istore_n (ls' := [(2, .int (iI (i : Int))), (0, .ref 28), (1, .ref 199), (3, .int (iI (i : Int)))]) dX7_worth_69 rfl (by decide) rfl ?_
            refine ab_goto (tgt := 199) dX7_worth_70 (by decide) ?_
            refine z_iinc (k := 3) (v := (i : Int) + 1) (ls' := [(3, .int (iI ((i : Int) + 1))), (2, .int (iI (i : Int))), (0, .ref 28), (1, .ref 199)]) dX7_worth_199 rfl rfl (by decide) rfl ?_
            refine ab_goto (tgt := 9) dX7_worth_202 (by decide) ?_
            refine ab_sub (ls' := [(0, .ref 28), (1, .ref 199), (2, .int (iI (i : Int))), (3, .int (iI ((i : Int) + 1)))]) (ks := [2, 3, 1, 0]) rfl ?_
            refine ih _ (by omega) (i + 1) (i : Int) st.tail _ rfl (xh.trans yg53) (ug53.trans th) Pg53 (by omega) (by omega) ?_
            rw [← hV, hdrop, wrt_unl (by omega) (by omega)]
            rw [if_neg (by omega)]
          · skip
            refine ab_aload_n (k := 0) dX7_worth_59 rfl rfl ?_
            refine z_getP (b := 30) dX7_worth_60 fX7_15 rfl rfl rfl ?_
            refine ab_iload_n (k := 3) dX7_worth_63 rfl rfl ?_
            refine z_iald dX7_worth_64 rfl (by omega) (by omega) ?_
            simp only [Int.toNat_natCast]
            refine z_is (y := dd) ((yg53.1 30 i (by decide)).trans hdd) ?_
            refine ab_goto (tgt := 69) dX7_worth_65 (by decide) ?_
            refine ab_istore_n (ls' := [(2, .int (iI dd)), (0, .ref 28), (1, .ref 199), (3, .int (iI (i : Int)))]) dX7_worth_69 rfl (by decide) rfl ?_
            refine ab_goto (tgt := 199) dX7_worth_70 (by decide) ?_
            refine z_iinc (k := 3) (v := (i : Int) + 1) (ls' := [(3, .int (iI ((i : Int) + 1))), (2, .int (iI dd)), (0, .ref 28), (1, .ref 199)]) dX7_worth_199 rfl rfl (by decide) rfl ?_
            refine ab_goto (tgt := 9) dX7_worth_202 (by decide) ?_
            refine ab_sub (ls' := [(0, .ref 28), (1, .ref 199), (2, .int (iI dd)), (3, .int (iI ((i : Int) + 1)))]) (ks := [2, 3, 1, 0]) rfl ?_
            refine ih _ (by omega) (i + 1) dd st.tail _ rfl (xh.trans yg53) (ug53.trans th) Pg53 (by omega) (by omega) ?_
            rw [← hV, hdrop, wrt_unl (by omega) (by omega)]
            rw [if_pos (by omega)]
      · skip
        refine ab_aload_n (k := 0) dX7_worth_36 rfl rfl ?_
        refine ab_callV (As := []) (rest := []) dX7_worth_37 lX7_34 rfl (Nat.le_of_ble_eq_true rfl) (Nat.le_of_ble_eq_true rfl) rfl ?_
        have hd37 := hd_R Ph
        refine c_pop2 Ph (fun g37 sg37 tg37 Pg37 => ?_)
        have yg37 := sg37
        have ug37 := tg37
        show ab_X (d + 3) mX7_worth 40 [(0, .ref 28), (1, .ref 199), (2, .int (iI f)), (3, .int (iI (i : Int)))] [.int (iI (st.headD 0))] g37 _
        refine z_iret dX7_worth_40 rfl ?_
        rw [hdrop, wrt_ans (by omega) (by omega)] at hV
        rw [hV]
        exact K _ (xh.trans yg37) (ug37.trans th)
    · skip
      refine ab_goto (tgt := 199) dX7_worth_22 (by decide) ?_
      refine z_iinc (k := 3) (v := (i : Int) + 1) (ls' := [(3, .int (iI ((i : Int) + 1))), (0, .ref 28), (1, .ref 199), (2, .int (iI f))]) dX7_worth_199 rfl rfl (by decide) rfl ?_
      refine ab_goto (tgt := 9) dX7_worth_202 (by decide) ?_
      refine ab_sub (ls' := [(0, .ref 28), (1, .ref 199), (2, .int (iI f)), (3, .int (iI ((i : Int) + 1)))]) (ks := [1, 2, 3, 0]) rfl ?_
      refine ih _ (by omega) (i + 1) f st h rfl xh th Ph (by omega) hf ?_
      rw [← hV, hdrop, wrt_skip (by omega)]
theorem c_worth2 {d : Nat} {h : ab_H} {Q : ab_Q} {c : List (Int × Int)} {env : Nat → Int} (C0 : CCr 28 h c) (hl : c.length ≤ 160) (hE : ∀ j, j < 5 → zv h 199 j = env j) (K : ∀ h', sm [28, 31] h h' → zv h' 28 3 = zv h 28 3 → Q (some (.int (iI (wrt env c 0 0 [])))) h') : ab_X (d + 3) mX7_worth 0 (lv_args 0 [.ref 28, .ref 199]) [] h Q := by
  show ab_X (d + 3) mX7_worth 0 [(0, .ref 28), (1, .ref 199)] [] h Q
  refine ab_aload_n (k := 0) dX7_worth_0 rfl rfl ?_
  refine z_iconst dX7_worth_1 ?_
  refine z_putI dX7_worth_2 fX7_31 rfl rfl ?_
  refine z_iconst dX7_worth_5 ?_
  refine ab_istore_n (ls' := [(2, .int (iI 0)), (0, .ref 28), (1, .ref 199)]) dX7_worth_6 rfl (by decide) rfl ?_
  refine z_iconst dX7_worth_7 ?_
  refine ab_istore_n (ls' := [(3, .int (iI 0)), (2, .int (iI 0)), (0, .ref 28), (1, .ref 199)]) dX7_worth_8 rfl (by decide) rfl ?_
  refine ab_sub (ls' := [(0, .ref 28), (1, .ref 199), (2, .int (iI 0)), (3, .int (iI 0))]) (ks := [2, 3, 1, 0]) rfl ?_
  have hs0 : sm [28, 31] h (zp h 28 4 0) := sm_zp (by decide)
  have C1 : CCr 28 (zp h 28 4 0) c := ⟨by rw [zv_zp_ne (by decide)]; exact C0.1, fun j hj => by rw [zv_zp_a (by decide), zv_zp_a (by decide)]; exact C0.2 j hj⟩
  exact lp_worth2 C1 hl (fun j hj => by rw [zv_zp_a (by decide)]; exact hE j hj) (fun h' s t => K h' (hs0.trans s) (t.trans (zv_zp_ne (by decide)))) _ 0 0 [] _ rfl sm.refl rfl ⟨by rw [zv_zp_s (by decide)]; rfl, by decide, fun j hj => absurd hj (Nat.not_lt_zero j)⟩ (by omega) (by decide) rfl
theorem lp_worth3 {d : Nat} {Q : ab_Q} {h0 : ab_H} {c : List (Int × Int)} {env : Nat → Int} {V : Int} (C0 : CCr 32 h0 c) (hl : c.length ≤ 160) (hE : ∀ j, j < 5 → zv h0 199 j = env j) (K : ∀ h', sm [32, 35] h0 h' → zv h' 32 3 = zv h0 32 3 → Q (some (.int (iI V))) h') : ∀ (nn : Nat) (i : Nat) (f : Int) (st : List Int) (h : ab_H), c.length - i = nn → (sm [32, 35] h0 h) → (zv h 32 3 = zv h0 32 3) → (PLr 32 h st) → (i ≤ c.length) → (inR f) → (wrt env (c.drop i) i f st = V) → ab_X (d + 3) mX7_worth 9 [(0, .ref 32), (1, .ref 199), (2, .int (iI f)), (3, .int (iI (i : Int)))] [] h Q := by
  intro nn
  induction nn using Nat.strongRecOn with
  | ind nn ih =>
  intro i f st h hnn xh th Ph hi hf hV
  have C : CCr 32 h c := ⟨th.trans C0.1, fun j hj => ⟨(xh.1 33 j (by decide)).trans (C0.2 j hj).1, (xh.1 34 j (by decide)).trans (C0.2 j hj).2⟩⟩
  refine ab_iload_n (k := 3) dX7_worth_9 rfl rfl ?_
  refine ab_aload_n (k := 0) dX7_worth_10 rfl rfl ?_
  refine z_getI dX7_worth_11 fX7_21 rfl (Or.inl rfl) ?_
  refine z_is (y := ((c.length : Nat) : Int)) C.1 ?_
  refine z_icmp_ge (tgt := 205) dX7_worth_14 (by decide) (by omega) (by omega) (fun c14 => ?_) (fun c14 => ?_)
  · skip
    refine z_iconst dX7_worth_205 ?_
    refine z_iret dX7_worth_206 rfl ?_
    have e : c.drop i = [] := List.drop_eq_nil_of_le (by omega)
    rw [e] at hV
    rw [show (0 : Int) = V from hV]
    exact K h xh th
  · skip
    have hic : i < c.length := by omega
    obtain ⟨o, dd, hod⟩ : ∃ o dd, c.getD i (0, 0) = (o, dd) := ⟨_, _, rfl⟩
    have ho : zv h 33 i = o := by have := (C.2 i hic).1; rw [hod] at this; exact this
    have hdd : zv h 34 i = dd := by have := (C.2 i hic).2; rw [hod] at this; exact this
    have hoR := zv_R h 33 i
    rw [ho] at hoR
    have hdR := zv_R h 34 i
    rw [hdd] at hdR
    have hdrop := drop_c hic hod
    refine ab_iload_n (k := 3) dX7_worth_17 rfl rfl ?_
    refine ab_iload_n (k := 2) dX7_worth_18 rfl rfl ?_
    refine z_icmp_ge (tgt := 25) dX7_worth_19 (by decide) (by omega) (by omega) (fun c19 => ?_) (fun c19 => ?_)
    · skip
      refine ab_aload_n (k := 0) dX7_worth_25 rfl rfl ?_
      refine z_getP (b := 33) dX7_worth_26 fX7_9 rfl rfl rfl ?_
      refine ab_iload_n (k := 3) dX7_worth_29 rfl rfl ?_
      refine z_iald dX7_worth_30 rfl (by omega) (by omega) ?_
      simp only [Int.toNat_natCast]
      refine z_is (y := o) ho ?_
      refine z_bipush dX7_worth_31 (by decide) ?_
      refine z_icmp_ne (tgt := 41) dX7_worth_33 (by decide) (by omega) (by decide) (fun c33 => ?_) (fun c33 => ?_)
      · skip
        refine ab_aload_n (k := 0) dX7_worth_41 rfl rfl ?_
        refine z_getP (b := 33) dX7_worth_42 fX7_9 rfl rfl rfl ?_
        refine ab_iload_n (k := 3) dX7_worth_45 rfl rfl ?_
        refine z_iald dX7_worth_46 rfl (by omega) (by omega) ?_
        simp only [Int.toNat_natCast]
        refine z_is (y := o) ho ?_
        refine z_bipush dX7_worth_47 (by decide) ?_
        refine z_icmp_ne (tgt := 73) dX7_worth_49 (by decide) (by omega) (by decide) (fun c49 => ?_) (fun c49 => ?_)
        · skip
          refine ab_aload_n (k := 0) dX7_worth_73 rfl rfl ?_
          refine z_getP (b := 33) dX7_worth_74 fX7_9 rfl rfl rfl ?_
          refine ab_iload_n (k := 3) dX7_worth_77 rfl rfl ?_
          refine z_iald dX7_worth_78 rfl (by omega) (by omega) ?_
          simp only [Int.toNat_natCast]
          refine z_is (y := o) ho ?_
          refine z_if_ne (tgt := 95) dX7_worth_79 (by decide) (by omega) (fun c79 => ?_) (fun c79 => ?_)
          · skip
            refine ab_aload_n (k := 0) dX7_worth_95 rfl rfl ?_
            refine z_getP (b := 33) dX7_worth_96 fX7_9 rfl rfl rfl ?_
            refine ab_iload_n (k := 3) dX7_worth_99 rfl rfl ?_
            refine z_iald dX7_worth_100 rfl (by omega) (by omega) ?_
            simp only [Int.toNat_natCast]
            refine z_is (y := o) ho ?_
            refine z_iconst dX7_worth_101 ?_
            refine z_icmp_ne (tgt := 144) dX7_worth_102 (by decide) (by omega) (by decide) (fun c102 => ?_) (fun c102 => ?_)
            · skip
              refine ab_aload_n (k := 0) dX7_worth_144 rfl rfl ?_
              refine z_getP (b := 33) dX7_worth_145 fX7_9 rfl rfl rfl ?_
              refine ab_iload_n (k := 3) dX7_worth_148 rfl rfl ?_
              refine z_iald dX7_worth_149 rfl (by omega) (by omega) ?_
              simp only [Int.toNat_natCast]
              refine z_is (y := o) ho ?_
              refine z_bipush dX7_worth_150 (by decide) ?_
              refine z_icmp_ne (tgt := 174) dX7_worth_152 (by decide) (by omega) (by decide) (fun c152 => ?_) (fun c152 => ?_)
              · skip
                refine ab_aload_n (k := 0) dX7_worth_174 rfl rfl ?_
                refine ab_callV (As := []) (rest := []) dX7_worth_175 lX7_34 rfl (Nat.le_of_ble_eq_true rfl) (Nat.le_of_ble_eq_true rfl) rfl ?_
                have hd175 := hd_R Ph
                refine c_pop3 Ph (fun g175 sg175 tg175 Pg175 => ?_)
                have yg175 := sg175
                have ug175 := tg175
                show ab_X (d + 3) mX7_worth 178 [(0, .ref 32), (1, .ref 199), (2, .int (iI f)), (3, .int (iI (i : Int)))] [.int (iI (st.headD 0))] g175 _
                refine ab_istore (ls' := [(4, .int (iI (st.headD 0))), (0, .ref 32), (1, .ref 199), (2, .int (iI f)), (3, .int (iI (i : Int)))]) dX7_worth_178 (by decide) rfl ?_
                refine ab_aload_n (k := 1) dX7_worth_180 rfl rfl ?_
                refine ab_aload_n (k := 1) dX7_worth_181 rfl rfl ?_
                refine z_getP (b := 33) dX7_worth_182 fX7_9 rfl rfl rfl ?_
                refine ab_iload_n (k := 4) dX7_worth_185 rfl rfl ?_
                refine z_iald dX7_worth_186 rfl (by omega) (by omega) ?_
                simp only [Int.toNat_natCast]
                refine z_is (y := o) ((yg175.1 33 i (by decide)).trans ho) ?_
                refine ab_aload_n (k := 1) dX7_worth_187 rfl rfl ?_
                refine ab_callV (As := []) (rest := [.int (iI o), .ref 32]) dX7_worth_188 lX7_34 rfl (Nat.le_of_ble_eq_true rfl) (Nat.le_of_ble_eq_true rfl) rfl ?_
                have hd188 := hd_R Pg175
                refine c_pop3 Pg175 (fun g188 sg188 tg188 Pg188 => ?_)
                have yg188 := yg175.trans sg188
                have ug188 := tg188.trans ug175
                show ab_X (d + 3) mX7_worth 191 [(4, .int (iI (st.headD 0))), (0, .ref 32), (1, .ref 199), (2, .int (iI f)), (3, .int (iI (i : Int)))] [.int (iI (st.tail.headD 0)), .int (iI o), .ref 32] g188 _
                refine ab_iload (k := 0) dX7_worth_191 rfl ?_
                refine ab_callS (As := [.int (iI o), .int (iI (st.tail.headD 0)), .int (iI (st.headD 0))]) (rest := [.ref 32]) dX7_worth_193 lX7_42 (Nat.le_of_ble_eq_true rfl) (Nat.le_of_ble_eq_true rfl) rfl ?_
                refine c_joined hoR (by omega) (by omega) ?_
                show ab_X (d + 3) mX7_worth 196 [(4, .int (iI (st.headD 0))), (0, .ref 32), (1, .ref 199), (2, .int (iI f)), (3, .int (iI (i : Int)))] [.int (iI (jn o (st.tail.headD 0) (st.headD 0))), .ref 32] g188 _
                refine ab_callV (As := [.int (iI (jn o (st.tail.headD 0) (st.headD 0)))]) (rest := []) dX7_worth_196 lX7_38 rfl (Nat.le_of_ble_eq_true rfl) (Nat.le_of_ble_eq_true rfl) rfl ?_
                refine c_push3 (jn_R _ _ _) Pg188 (fun g196 sg196 tg196 Pg196 => ?_)
                have yg196 := yg188.trans sg196
                have ug196 := tg196.trans ug188
                show ab_X (d + 3) mX7_worth 199 [(4, .int (iI (st.headD 0))), (0, .ref 32), (1, .ref 199), (2, .int (iI f)), (3, .int (iI (i : Int)))] [] g196 _
                refine z_iinc (k := 4) (v := (i : Int) + 1) (ls' := [(3, .int (iI ((i : Int) + 1))), (4, .int (iI (st.headD 0))), (0, .ref 32), (1, .ref 199), (2, .int (iI f))]) dX7_worth_199 rfl rfl (by decide) rfl ?_
                refine ab_goto (tgt := 9) dX7_worth_202 (by decide) ?_
                refine ab_sub (ls' := [(0, .ref 32), (1, .ref 199), (2, .int (iI f)), (3, .int (iI ((i : Int) + 1)))]) (ks := [2, 3, 4, 0]) rfl ?_
                refine ih _ (by omega) (i + 1) f (puS (jn o (st.tail.headD 0) (st.headD 0)) st.tail.tail) _ rfl (xh.trans yg196) (ug196.trans th) Pg196 (by omega) (by omega) ?_
                rw [← hV, hdrop, wrt_op (by omega) (by omega) (by omega)]
                congr 1
                unfold sp1
                rw [if_neg (by omega), if_neg (by omega), if_neg (by omega)]
              · skip
                refine ab_aload_n (k := 0) dX7_worth_155 rfl rfl ?_
                refine ab_aload_n (k := 0) dX7_worth_156 rfl rfl ?_
                refine ab_callV (As := []) (rest := [.ref 32]) dX7_worth_157 lX7_34 rfl (Nat.le_of_ble_eq_true rfl) (Nat.le_of_ble_eq_true rfl) rfl ?_
                have hd157 := hd_R Ph
                refine c_pop3 Ph (fun g157 sg157 tg157 Pg157 => ?_)
                have yg157 := sg157
                have ug157 := tg157
                show ab_X (d + 3) mX7_worth 160 [(0, .ref 32), (1, .ref 199), (2, .int (iI f)), (3, .int (iI (i : Int)))] [.int (iI (st.headD 0)), .ref 32] g157 _
                refine z_if_ne (tgt := 167) dX7_worth_160 (by decide) (by omega) (fun c160 => ?_) (fun c160 => ?_)
                · skip
                  refine z_iconst dX7_worth_167 ?_
                  refine ab_callV (As := [.int (iI 0)]) (rest := []) dX7_worth_168 lX7_38 rfl (Nat.le_of_ble_eq_true rfl) (Nat.le_of_ble_eq_true rfl) rfl ?_
                  refine c_push3 (by first | omega | decide | exact zv_R _ _ _) Pg157 (fun g168 sg168 tg168 Pg168 => ?_)
                  have yg168 := yg157.trans sg168
                  have ug168 := tg168.trans ug157
                  show ab_X (d + 3) mX7_worth 171 [(0, .ref 32), (1, .ref 199), (2, .int (iI f)), (3, .int (iI (i : Int)))] [] g168 _
                  refine ab_goto (tgt := 199) dX7_worth_171 (by decide) ?_
                  refine z_iinc (k := 3) (v := (i : Int) + 1) (ls' := [(3, .int (iI ((i : Int) + 1))), (0, .ref 32), (1, .ref 199), (2, .int (iI f))]) dX7_worth_199 rfl rfl (by decide) rfl ?_
                  refine ab_goto (tgt := 9) dX7_worth_202 (by decide) ?_
                  refine ab_sub (ls' := [(0, .ref 32), (1, .ref 199), (2, .int (iI f)), (3, .int (iI ((i : Int) + 1)))]) (ks := [1, 2, 3, 0]) rfl ?_
                  refine ih _ (by omega) (i + 1) f (puS 0 st.tail) _ rfl (xh.trans yg168) (ug168.trans th) Pg168 (by omega) (by omega) ?_
                  rw [← hV, hdrop, wrt_op (by omega) (by omega) (by omega)]
                  congr 1
                  unfold sp1
                  rw [if_neg (by omega), if_neg (by omega), if_pos (by omega)]
                  first
                  | rw [if_pos (by omega)]
                  | rw [if_neg (by omega)]
                · skip
                  refine z_iconst dX7_worth_163 ?_
                  refine ab_goto (tgt := 168) dX7_worth_164 (by decide) ?_
                  refine ab_callV (As := [.int (iI 1)]) (rest := []) dX7_worth_168 lX7_38 rfl (Nat.le_of_ble_eq_true rfl) (Nat.le_of_ble_eq_true rfl) rfl ?_
                  refine c_push3 (by first | omega | decide | exact zv_R _ _ _) Pg157 (fun g168 sg168 tg168 Pg168 => ?_)
                  have yg168 := yg157.trans sg168
                  have ug168 := tg168.trans ug157
                  show ab_X (d + 3) mX7_worth 171 [(0, .ref 32), (1, .ref 199), (2, .int (iI f)), (3, .int (iI (i : Int)))] [] g168 _
                  refine ab_goto (tgt := 199) dX7_worth_171 (by decide) ?_
                  refine z_iinc (k := 3) (v := (i : Int) + 1) (ls' := [(3, .int (iI ((i : Int) + 1))), (0, .ref 32), (1, .ref 199), (2, .int (iI f))]) dX7_worth_199 rfl rfl (by decide) rfl ?_
                  refine ab_goto (tgt := 9) dX7_worth_202 (by decide) ?_
                  refine ab_sub (ls' := [(0, .ref 32), (1, .ref 199), (2, .int (iI f)), (3, .int (iI ((i : Int) + 1)))]) (ks := [1, 2, 3, 0]) rfl ?_
                  refine ih _ (by omega) (i + 1) f (puS 1 st.tail) _ rfl (xh.trans yg168) (ug168.trans th) Pg168 (by omega) (by omega) ?_
                  rw [← hV, hdrop, wrt_op (by omega) (by omega) (by omega)]
                  congr 1
                  unfold sp1
                  rw [if_neg (by omega), if_neg (by omega), if_pos (by omega)]
                  first
                  | rw [if_pos (by omega)]
                  | rw [if_neg (by omega)]
            · skip
              refine ab_aload_n (k := 0) dX7_worth_105 rfl rfl ?_
              refine ab_aload_n (k := 0) dX7_worth_106 rfl rfl ?_
              refine z_getP (b := 34) dX7_worth_107 fX7_15 rfl rfl rfl ?_
              refine ab_iload_n (k := 3) dX7_worth_110 rfl rfl ?_
              refine z_iald dX7_worth_111 rfl (by omega) (by omega) ?_
              simp only [Int.toNat_natCast]
              refine z_is (y := dd) hdd ?_
              refine z_if_lt (tgt := 137) dX7_worth_112 (by decide) (by omega) (fun c112 => ?_) (fun c112 => ?_)
              · skip
                refine z_iconst dX7_worth_137 ?_
                refine ab_callV (As := [.int (iI 0)]) (rest := []) dX7_worth_138 lX7_38 rfl (Nat.le_of_ble_eq_true rfl) (Nat.le_of_ble_eq_true rfl) rfl ?_
                refine c_push3 (by first | omega | decide | exact zv_R _ _ _) Ph (fun g138 sg138 tg138 Pg138 => ?_)
                have yg138 := sg138
                have ug138 := tg138
                show ab_X (d + 3) mX7_worth 141 [(0, .ref 32), (1, .ref 199), (2, .int (iI f)), (3, .int (iI (i : Int)))] [] g138 _
                refine ab_goto (tgt := 199) dX7_worth_141 (by decide) ?_
                refine z_iinc (k := 3) (v := (i : Int) + 1) (ls' := [(3, .int (iI ((i : Int) + 1))), (0, .ref 32), (1, .ref 199), (2, .int (iI f))]) dX7_worth_199 rfl rfl (by decide) rfl ?_
                refine ab_goto (tgt := 9) dX7_worth_202 (by decide) ?_
                refine ab_sub (ls' := [(0, .ref 32), (1, .ref 199), (2, .int (iI f)), (3, .int (iI ((i : Int) + 1)))]) (ks := [1, 2, 3, 0]) rfl ?_
                refine ih _ (by omega) (i + 1) f (puS 0 st) _ rfl (xh.trans yg138) (ug138.trans th) Pg138 (by omega) (by omega) ?_
                rw [← hV, hdrop, wrt_op (by omega) (by omega) (by omega)]
                congr 1
                unfold sp1
                rw [if_neg (by omega), if_pos (by omega)]
                first
                | (rw [if_pos (by omega)]; rw [show zv h 199 dd.toNat = env dd.toNat from (xh.1 199 _ (by decide)).trans (hE _ (by omega))])
                | rw [if_neg (by omega)]
              · skip
                refine ab_aload_n (k := 0) dX7_worth_115 rfl rfl ?_
                refine z_getP (b := 34) dX7_worth_116 fX7_15 rfl rfl rfl ?_
                refine ab_iload_n (k := 3) dX7_worth_119 rfl rfl ?_
                refine z_iald dX7_worth_120 rfl (by omega) (by omega) ?_
                simp only [Int.toNat_natCast]
                refine z_is (y := dd) hdd ?_
                refine ab_aload_n (k := 1) dX7_worth_121 rfl rfl ?_
                refine z_alen dX7_worth_122 rfl (Or.inl rfl) ?_
                refine z_icmp_ge (tgt := 137) dX7_worth_123 (by decide) (by omega) (by decide) (fun c123 => ?_) (fun c123 => ?_)
                · skip
                  refine z_iconst dX7_worth_137 ?_
                  refine ab_callV (As := [.int (iI 0)]) (rest := []) dX7_worth_138 lX7_38 rfl (Nat.le_of_ble_eq_true rfl) (Nat.le_of_ble_eq_true rfl) rfl ?_
                  refine c_push3 (by first | omega | decide | exact zv_R _ _ _) Ph (fun g138 sg138 tg138 Pg138 => ?_)
                  have yg138 := sg138
                  have ug138 := tg138
                  show ab_X (d + 3) mX7_worth 141 [(0, .ref 32), (1, .ref 199), (2, .int (iI f)), (3, .int (iI (i : Int)))] [] g138 _
                  refine ab_goto (tgt := 199) dX7_worth_141 (by decide) ?_
                  refine z_iinc (k := 3) (v := (i : Int) + 1) (ls' := [(3, .int (iI ((i : Int) + 1))), (0, .ref 32), (1, .ref 199), (2, .int (iI f))]) dX7_worth_199 rfl rfl (by decide) rfl ?_
                  refine ab_goto (tgt := 9) dX7_worth_202 (by decide) ?_
                  refine ab_sub (ls' := [(0, .ref 32), (1, .ref 199), (2, .int (iI f)), (3, .int (iI ((i : Int) + 1)))]) (ks := [1, 2, 3, 0]) rfl ?_
                  refine ih _ (by omega) (i + 1) f (puS 0 st) _ rfl (xh.trans yg138) (ug138.trans th) Pg138 (by omega) (by omega) ?_
                  rw [← hV, hdrop, wrt_op (by omega) (by omega) (by omega)]
                  congr 1
                  unfold sp1
                  rw [if_neg (by omega), if_pos (by omega)]
                  first
                  | (rw [if_pos (by omega)]; rw [show zv h 199 dd.toNat = env dd.toNat from (xh.1 199 _ (by decide)).trans (hE _ (by omega))])
                  | rw [if_neg (by omega)]
                · skip
                  refine ab_aload_n (k := 1) dX7_worth_126 rfl rfl ?_
                  refine ab_aload_n (k := 0) dX7_worth_127 rfl rfl ?_
                  refine z_getP (b := 34) dX7_worth_128 fX7_15 rfl rfl rfl ?_
                  refine ab_iload_n (k := 3) dX7_worth_131 rfl rfl ?_
                  refine z_iald dX7_worth_132 rfl (by omega) (by omega) ?_
                  simp only [Int.toNat_natCast]
                  refine z_is (y := dd) hdd ?_
                  refine z_iald dX7_worth_133 rfl (by omega) (by omega) ?_
                  have b1 := zv_R h 199 dd.toNat
                  refine ab_goto (tgt := 138) dX7_worth_134 (by decide) ?_
                  refine ab_callV (As := [.int (iI (zv h 199 dd.toNat))]) (rest := []) dX7_worth_138 lX7_38 rfl (Nat.le_of_ble_eq_true rfl) (Nat.le_of_ble_eq_true rfl) rfl ?_
                  refine c_push3 (by first | omega | decide | exact zv_R _ _ _) Ph (fun g138 sg138 tg138 Pg138 => ?_)
                  have yg138 := sg138
                  have ug138 := tg138
                  show ab_X (d + 3) mX7_worth 141 [(0, .ref 32), (1, .ref 199), (2, .int (iI f)), (3, .int (iI (i : Int)))] [] g138 _
                  refine ab_goto (tgt := 199) dX7_worth_141 (by decide) ?_
                  refine z_iinc (k := 3) (v := (i : Int) + 1) (ls' := [(3, .int (iI ((i : Int) + 1))), (0, .ref 32), (1, .ref 199), (2, .int (iI f))]) dX7_worth_199 rfl rfl (by decide) rfl ?_
                  refine ab_goto (tgt := 9) dX7_worth_202 (by decide) ?_
                  refine ab_sub (ls' := [(0, .ref 32), (1, .ref 199), (2, .int (iI f)), (3, .int (iI ((i : Int) + 1)))]) (ks := [1, 2, 3, 0]) rfl ?_
                  refine ih _ (by omega) (i + 1) f (puS (zv h 199 dd.toNat) st) _ rfl (xh.trans yg138) (ug138.trans th) Pg138 (by omega) (by omega) ?_
                  rw [← hV, hdrop, wrt_op (by omega) (by omega) (by omega)]
                  congr 1
                  unfold sp1
                  rw [if_neg (by omega), if_pos (by omega)]
                  first
                  | (rw [if_pos (by omega)]; rw [show zv h 199 dd.toNat = env dd.toNat from (xh.1 199 _ (by decide)).trans (hE _ (by omega))])
                  | rw [if_neg (by omega)]
          · skip
            refine ab_aload_n (k := 0) dX7_worth_82 rfl rfl ?_
            refine ab_aload_n (k := 0) dX7_worth_83 rfl rfl ?_
            refine z_getP (b := 34) dX7_worth_84 fX7_15 rfl rfl rfl ?_
            refine ab_iload_n (k := 3) dX7_worth_87 rfl rfl ?_
            refine z_iald dX7_worth_88 rfl (by omega) (by omega) ?_
            simp only [Int.toNat_natCast]
            refine z_is (y := dd) hdd ?_
            refine ab_callV (As := [.int (iI dd)]) (rest := []) dX7_worth_89 lX7_38 rfl (Nat.le_of_ble_eq_true rfl) (Nat.le_of_ble_eq_true rfl) rfl ?_
            refine c_push3 (by first | omega | decide | exact zv_R _ _ _) Ph (fun g89 sg89 tg89 Pg89 => ?_)
            have yg89 := sg89
            have ug89 := tg89
            show ab_X (d + 3) mX7_worth 92 [(0, .ref 32), (1, .ref 199), (2, .int (iI f)), (3, .int (iI (i : Int)))] [] g89 _
            refine ab_goto (tgt := 199) dX7_worth_92 (by decide) ?_
            refine z_iinc (k := 3) (v := (i : Int) + 1) (ls' := [(3, .int (iI ((i : Int) + 1))), (0, .ref 32), (1, .ref 199), (2, .int (iI f))]) dX7_worth_199 rfl rfl (by decide) rfl ?_
            refine ab_goto (tgt := 9) dX7_worth_202 (by decide) ?_
            refine ab_sub (ls' := [(0, .ref 32), (1, .ref 199), (2, .int (iI f)), (3, .int (iI ((i : Int) + 1)))]) (ks := [1, 2, 3, 0]) rfl ?_
            refine ih _ (by omega) (i + 1) f (puS dd st) _ rfl (xh.trans yg89) (ug89.trans th) Pg89 (by omega) (by omega) ?_
            rw [← hV, hdrop, wrt_op (by omega) (by omega) (by omega)]
            congr 1
            unfold sp1
            rw [if_pos (by omega)]
        · skip
          refine ab_aload_n (k := 0) dX7_worth_52 rfl rfl ?_
          refine ab_callV (As := []) (rest := []) dX7_worth_53 lX7_34 rfl (Nat.le_of_ble_eq_true rfl) (Nat.le_of_ble_eq_true rfl) rfl ?_
          have hd53 := hd_R Ph
          refine c_pop3 Ph (fun g53 sg53 tg53 Pg53 => ?_)
          have yg53 := sg53
          have ug53 := tg53
          show ab_X (d + 3) mX7_worth 56 [(0, .ref 32), (1, .ref 199), (2, .int (iI f)), (3, .int (iI (i : Int)))] [.int (iI (st.headD 0))] g53 _
          refine z_if_ne (tgt := 68) dX7_worth_56 (by decide) (by omega) (fun c56 => ?_) (fun c56 => ?_)
          · skip
            refine ab_iload_n (k := 3) dX7_worth_68 rfl rfl ?_
            refine ab_istore_n (ls' := [(2, .int (iI (i : Int))), (0, .ref 32), (1, .ref 199), (3, .int (iI (i : Int)))]) dX7_worth_69 rfl (by decide) rfl ?_
            refine ab_goto (tgt := 199) dX7_worth_70 (by decide) ?_
            refine z_iinc (k := 3) (v := (i : Int) + 1) (ls' := [(3, .int (iI ((i : Int) + 1))), (2, .int (iI (i : Int))), (0, .ref 32), (1, .ref 199)]) dX7_worth_199 rfl rfl (by decide) rfl ?_
            refine ab_goto (tgt := 9) dX7_worth_202 (by decide) ?_
            refine ab_sub (ls' := [(0, .ref 32), (1, .ref 199), (2, .int (iI (i : Int))), (3, .int (iI ((i : Int) + 1)))]) (ks := [2, 3, 1, 0]) rfl ?_
            refine ih _ (by omega) (i + 1) (i : Int) st.tail _ rfl (xh.trans yg53) (ug53.trans th) Pg53 (by omega) (by omega) ?_
            rw [← hV, hdrop, wrt_unl (by omega) (by omega)]
            rw [if_neg (by omega)]
          · skip
            refine ab_aload_n (k := 0) dX7_worth_59 rfl rfl ?_
            refine z_getP (b := 34) dX7_worth_60 fX7_15 rfl rfl rfl ?_
            refine ab_iload_n (k := 3) dX7_worth_63 rfl rfl ?_
            refine z_iald dX7_worth_64 rfl (by omega) (by omega) ?_
            simp only [Int.toNat_natCast]
            refine z_is (y := dd) ((yg53.1 34 i (by decide)).trans hdd) ?_
            refine ab_goto (tgt := 69) dX7_worth_65 (by decide) ?_
            refine ab_istore_n (ls' := [(2, .int (iI dd)), (0, .ref 32), (1, .ref 199), (3, .int (iI (i : Int)))]) dX7_worth_69 rfl (by decide) rfl ?_
            refine ab_goto (tgt := 199) dX7_worth_70 (by decide) ?_
            refine z_iinc (k := 3) (v := (i : Int) + 1) (ls' := [(3, .int (iI ((i : Int) + 1))), (2, .int (iI dd)), (0, .ref 32), (1, .ref 199)]) dX7_worth_199 rfl rfl (by decide) rfl ?_
            refine ab_goto (tgt := 9) dX7_worth_202 (by decide) ?_
            refine ab_sub (ls' := [(0, .ref 32), (1, .ref 199), (2, .int (iI dd)), (3, .int (iI ((i : Int) + 1)))]) (ks := [2, 3, 1, 0]) rfl ?_
            refine ih _ (by omega) (i + 1) dd st.tail _ rfl (xh.trans yg53) (ug53.trans th) Pg53 (by omega) (by omega) ?_
            rw [← hV, hdrop, wrt_unl (by omega) (by omega)]
            rw [if_pos (by omega)]
      · skip
        refine ab_aload_n (k := 0) dX7_worth_36 rfl rfl ?_
        refine ab_callV (As := []) (rest := []) dX7_worth_37 lX7_34 rfl (Nat.le_of_ble_eq_true rfl) (Nat.le_of_ble_eq_true rfl) rfl ?_
        have hd37 := hd_R Ph
        refine c_pop3 Ph (fun g37 sg37 tg37 Pg37 => ?_)
        have yg37 := sg37
        have ug37 := tg37
        show ab_X (d + 3) mX7_worth 40 [(0, .ref 32), (1, .ref 199), (2, .int (iI f)), (3, .int (iI (i : Int)))] [.int (iI (st.headD 0))] g37 _
        refine z_iret dX7_worth_40 rfl ?_
        rw [hdrop, wrt_ans (by omega) (by omega)] at hV
        rw [hV]
        exact K _ (xh.trans yg37) (ug37.trans th)
    · skip
      refine ab_goto (tgt := 199) dX7_worth_22 (by decide) ?_
      refine z_iinc (k := 3) (v := (i : Int) + 1) (ls' := [(3, .int (iI ((i : Int) + 1))), (0, .ref 32), (1, .ref 199), (2, .int (iI f))]) dX7_worth_199 rfl rfl (by decide) rfl ?_
      refine ab_goto (tgt := 9) dX7_worth_202 (by decide) ?_
      refine ab_sub (ls' := [(0, .ref 32), (1, .ref 199), (2, .int (iI f)), (3, .int (iI ((i : Int) + 1)))]) (ks := [1, 2, 3, 0]) rfl ?_
      refine ih _ (by omega) (i + 1) f st h rfl xh th Ph (by omega) hf ?_
      rw [← hV, hdrop, wrt_skip (by omega)]
theorem c_worth3 {d : Nat} {h : ab_H} {Q : ab_Q} {c : List (Int × Int)} {env : Nat → Int} (C0 : CCr 32 h c) (hl : c.length ≤ 160) (hE : ∀ j, j < 5 → zv h 199 j = env j) (K : ∀ h', sm [32, 35] h h' → zv h' 32 3 = zv h 32 3 → Q (some (.int (iI (wrt env c 0 0 [])))) h') : ab_X (d + 3) mX7_worth 0 (lv_args 0 [.ref 32, .ref 199]) [] h Q := by
  show ab_X (d + 3) mX7_worth 0 [(0, .ref 32), (1, .ref 199)] [] h Q
  refine ab_aload_n (k := 0) dX7_worth_0 rfl rfl ?_
  refine z_iconst dX7_worth_1 ?_
  refine z_putI dX7_worth_2 fX7_31 rfl rfl ?_
  refine z_iconst dX7_worth_5 ?_
  refine ab_istore_n (ls' := [(2, .int (iI 0)), (0, .ref 32), (1, .ref 199)]) dX7_worth_6 rfl (by decide) rfl ?_
  refine z_iconst dX7_worth_7 ?_
  refine ab_istore_n (ls' := [(3, .int (iI 0)), (2, .int (iI 0)), (0, .ref 32), (1, .ref 199)]) dX7_worth_8 rfl (by decide) rfl ?_
  refine ab_sub (ls' := [(0, .ref 32), (1, .ref 199), (2, .int (iI 0)), (3, .int (iI 0))]) (ks := [2, 3, 1, 0]) rfl ?_
  have hs0 : sm [32, 35] h (zp h 32 4 0) := sm_zp (by decide)
  have C1 : CCr 32 (zp h 32 4 0) c := ⟨by rw [zv_zp_ne (by decide)]; exact C0.1, fun j hj => by rw [zv_zp_a (by decide), zv_zp_a (by decide)]; exact C0.2 j hj⟩
  exact lp_worth3 C1 hl (fun j hj => by rw [zv_zp_a (by decide)]; exact hE j hj) (fun h' s t => K h' (hs0.trans s) (t.trans (zv_zp_ne (by decide)))) _ 0 0 [] _ rfl sm.refl rfl ⟨by rw [zv_zp_s (by decide)]; rfl, by decide, fun j hj => absurd hj (Nat.not_lt_zero j)⟩ (by omega) (by decide) rfl
