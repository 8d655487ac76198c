/-! THE LAW'S HELPER yard, and its case -/
theorem dY_0 : decode cL_yard 0 = .ok (.aload_n 3, 1) := by decide +kernel
theorem dY_1 : decode cL_yard 1 = .ok (.iconst 0, 1) := by decide +kernel
theorem dY_2 : decode cL_yard 2 = .ok (.aload_n 0, 1) := by decide +kernel
theorem dY_3 : decode cL_yard 3 = .ok (.iload_n 1, 1) := by decide +kernel
theorem dY_4 : decode cL_yard 4 = .ok (.iload_n 2, 1) := by decide +kernel
theorem dY_5 : decode cL_yard 5 = .ok (.invokevirtual 7, 3) := by decide +kernel
theorem dY_8 : decode cL_yard 8 = .ok (.i2l, 1) := by decide +kernel
theorem dY_9 : decode cL_yard 9 = .ok (.lastore, 1) := by decide +kernel
theorem dY_10 : decode cL_yard 10 = .ok (.goto 7, 3) := by decide +kernel
theorem dY_13 : decode cL_yard 13 = .ok (.astore 4, 2) := by decide +kernel
theorem dY_15 : decode cL_yard 15 = .ok (.iconst 1, 1) := by decide +kernel
theorem dY_16 : decode cL_yard 16 = .ok (.ireturn, 1) := by decide +kernel
theorem dY_17 : decode cL_yard 17 = .ok (.iconst 0, 1) := by decide +kernel
theorem dY_18 : decode cL_yard 18 = .ok (.ireturn, 1) := by decide +kernel
abbrev hy_h : List (Nat × Nat × Nat × Nat) := [(0, 10, 13, 13)]
theorem hy_c : Cond.codeWith yL_yard cL_yard 5 (some .int) hy_h ∈ ab_T := ab_inT1 (List.mem_of_getElem? (i := 990) (by decide +kernel)) (by decide +kernel)
theorem hy_l38 : Cond.methodLink RL 38 yL_yard ∈ ab_T := ab_inT1 (List.mem_of_getElem? (i := 988) (by decide +kernel)) (by decide +kernel)
theorem hy_s38 : Cond.static yL_yard ∈ ab_T := ab_inT1 (List.mem_of_getElem? (i := 989) (by decide +kernel)) (by decide +kernel)
theorem hy_i : Cond.initialized RL ∈ ab_T := ab_inT1 (List.mem_of_getElem? (i := 0) (by decide +kernel)) (by decide +kernel)
theorem hy_k13 : Cond.classLink RL 13 NSE ∈ ab_T := ab_inT1 (List.mem_of_getElem? (i := 991) (by decide +kernel)) (by decide +kernel)
theorem hy_l7 : Cond.methodLink RL 7 mX11_yard.1 ∈ ab_T := ab_inT1 (List.mem_of_getElem? (i := 992) (by decide +kernel)) (by decide +kernel)
abbrev hy_ws : List Cond := Cond.codeWith yL_yard cL_yard 5 (some .int) hy_h :: ab_T
theorem hy_good : GoodIn ab_T hy_ws := fun w hw => by
  rcases List.mem_cons.mp hw with rfl | hw
  · exact ab_good _ hy_c
  · exact ab_good w hw
def hy_rm (k n : Nat) : Room := { frames := 62, cells := k, slots := n, locals := 7936 }
/-- a body with handlers that returns -/
theorem hy_ofWH {l : Launch} {y : MethodName} {ws ws' : List Cond} {rm : Room} {Pc : Array Value → State → Prop} {Qc : Array Value → State → Outcome → State → Prop} {mc ms : Nat} {free : Addr → Prop} {cc : ByteArray} {maxL : Nat} {ret : Option FieldType} {hh : List (Nat × Nat × Nat × Nat)}
    (hy : plainName y.cls = true) (hw : ws = Cond.codeWith y cc maxL ret hh :: ws')
    (body : ∀ p e s m args below meth c s₁, BodyLoose p l y (headSpec ws rm) cc maxL ret e s m args below meth c s₁ → c.maxLocals = maxL → Pc args s →
      W p l e (headSpec ws rm).room s m args below meth c s.heap [] 0 0 (MQ below Qc args s mc ms free) (entryFrame m args maxL)) : Met l y ws rm Pc Qc mc ms free := by
  refine MetFree.of_bodyS (code := cc) (maxLocals := maxL) (ret := ret) hy ?_ ?_
  · intro args s m h hn
    obtain ⟨m9, meth, c, hn9, h1, h2, h3, h4, -, h5, h6, -⟩ := Cond.codeWith_spec (atoms_spec (ws := ws) h _ (by rw [hw]; exact List.mem_cons_self))
    cases hn.symm.trans hn9
    exact ⟨meth, c, h1, h2, h3, h4, h5, h6⟩
  · intro p e s m args below meth c s₁ B hml hP _
    have hh0 : s₁.heap = s.heap := by rw [B.state]; rfl
    obtain ⟨t, a1, o, b1, b2, b3⟩ := body p e s m args below meth c s₁ B hml hP s₁ hh0 (Stand.of_body B)
    exact ⟨t, o, a1, b1, b2, ⟨b3.1, b3.2⟩⟩
theorem yd_one {D : va_G} {q : Nat} {e : va_E} {H : Heap} (h : va_at D vwCl (q, e) H) : va_P D vwCl [(q, e)] H := fun k9 x9 h9 => by
  have h0 : k9 < 1 := (List.getElem?_eq_some_iff.mp h9).1
  rw [show k9 = 0 by omega] at h9
  cases h9
  exact h
theorem yd_D {F A : Nat → Prop} {W9 : va_W} {x : Nat × va_E} (hD : va_D A W9) (hAF : ∀ q, A q → F q) (hn : ¬ A x.1) (hF : F x.1) : va_D F (W9 ++ [x]) := by
  have key : ∀ (k : Nat) (q : Nat × va_E), (W9 ++ [x])[k]? = some q → W9[k]? = some q ∨ (k = W9.length ∧ q = x) := fun k q hk => by
    rcases Nat.lt_or_ge k W9.length with h | h
    · rw [List.getElem?_append_left h] at hk
      exact Or.inl hk
    · rw [List.getElem?_append_right h] at hk
      have h0 : k - W9.length < 1 := (List.getElem?_eq_some_iff.mp hk).1
      rw [show k - W9.length = 0 by omega] at hk
      exact Or.inr ⟨by omega, (Option.some.inj hk).symm⟩
  refine ⟨fun i j p q hi hj e => ?_, fun k q hk => ?_⟩
  · rcases key i p hi with a | ⟨a, rfl⟩ <;> rcases key j q hj with b | ⟨b, rfl⟩
    · exact hD.1 i j p q a b e
    · exact absurd (e ▸ hD.2 i p a) hn
    · exact absurd (e.symm ▸ hD.2 j q b) hn
    · omega
  · rcases key k q hk with a | ⟨a, rfl⟩
    · exact hAF _ (hD.2 k q a)
    · exact hF
section HY
variable {l : Launch} {D : va_G} {cy : Nat → ClassId} {ad : Nat → Nat} {A F : Nat → Prop} {qo : Nat} {o : Nat → Int64} {h : ab_H}
def hy_Pc (D : va_G) (cy : Nat → ClassId) (ad : Nat → Nat) (A : Nat → Prop) (qo : Nat) (o : Nat → Int64) (h : ab_H) (a0 b0 : Int32) : Array Value → State → Prop := va_Pc [.ref (ad 0), .int a0, .int b0, .ref qo] (fun U => va_P D vwCl (ab_W cy ad h) U.heap ∧ va_D A (ab_W cy ad h) ∧ ab_K D cy ad A U U.heap ∧ yd_Z A U U.heap ∧ U.heap[qo]? = some (vp_cell (cy 21) (1, .inr (.inl o))))
theorem hy_blind {a0 b0 : Int32} : FrameBlind (hy_Pc D cy ad A qo o h a0 b0) := by
  intro a U g mk q
  obtain ⟨q0, qP, qD, qK, qZ, qO⟩ := q
  exact ⟨q0, qP, qD, ab_K.same (U := U.calling g mk a) qK rfl, yd_Z.moved (U := U.calling g mk a) qZ (State.WarmedH.refl U) (fun _ _ _ => rfl), qO⟩
abbrev hy_QN (D : va_G) (cy : Nat → ClassId) (ad : Nat → Nat) (F : Nat → Prop) (qo : Nat) (o : Nat → Int64) (h : ab_H) : Array Value → State → Outcome → State → Prop := va_Qi (fun r (_ : Unit) => r = 1) (fun _ t => va_P D vwCl (ab_W cy ad h) t.heap ∧ t.heap[qo]? = some (vp_cell (cy 21) (1, .inr (.inl o)))) F
theorem hy_N {s0 x0 : Int} (hst : l.stackTraces = false) (hs0 : inR s0) (hx0 : inR x0) (hv : ¬ ((0 ≤ s0 ∧ s0 < zv h 15 0) ∧ 0 ≤ x0 ∧ x0 ≤ 2)) (hAF : ∀ q, A q → F q) (hAq : ¬ A qo) :
    Met l yL_yard hy_ws (hy_rm 1 6) (hy_Pc D cy ad A qo o h (iI s0) (iI x0)) (hy_QN D cy ad F qo o h) 1 6 F := by
  refine hy_ofWH (cc := cL_yard) (maxL := 5) (ret := some .int) (hh := hy_h) (by decide +kernel) rfl ?_
  intro p e s m args below meth c s₁ B hml hpc
  obtain ⟨rfl, hP, hD, hK, hZ, hO⟩ := hpc
  have hts0 := atoms_spec (ws := hy_ws) B.pre
  have hts : ∀ w ∈ ab_T, w.before _ s = true := fun w hw => hts0 w (List.mem_cons_of_mem _ hw)
  have hx := B.exec
  have hb := B.bytes
  have hr := B.returns
  have hlk := B.notSynchronized
  have hown : s.vm.findClass RL = some m.cls := findClass_of_methodNamed B.named
  have htab : c.exceptionTable.toList = tableOf hy_h := vx_table (x := yL_yard) B (hts0 _ List.mem_cons_self)
  rw [lg_entry_eq]
  have hls := lv_entry ([.ref (ad 0), .int (iI s0), .int (iI x0), .ref qo] : List Value) (n := 5) (Nat.le_of_ble_eq_true rfl)
  generalize (lg_sl ([.ref (ad 0), .int (iI s0), .int (iI x0), .ref qo] : List Value) ++ List.replicate (5 - (lg_sl ([.ref (ad 0), .int (iI s0), .int (iI x0), .ref qo] : List Value)).length) Slot.unset).toArray = lsA at hls ⊢
  have hls : lv_has lsA 5 [(0, .ref (ad 0)), (1, .int (iI s0)), (2, .int (iI x0)), (3, .ref qo)] := hls
  refine lv_aload_n hx hb dY_0 rfl (lv_at hls 3 rfl) ?_
  refine lv_iconst (v := 0) hx hb dY_1 (by decide) ?_
  refine lv_aload_n hx hb dY_2 rfl (lv_at hls 0 rfl) ?_
  refine lv_iload_n hx hb dY_3 rfl (lv_at hls 1 rfl) ?_
  refine lv_iload_n hx hb dY_4 rfl (lv_at hls 2 rfl) ?_
  obtain ⟨g1, g2, g3, g4, g5, g6, g7⟩ := oX11_yard
  obtain ⟨f3, f4, q, hq, hqC⟩ := vX11_yard
  have he : (ab_W cy ad h)[0]? = some (ad 0, .inr (11, ab_F ad 11 h 0)) := by rw [ab_W_get (by decide), ab_E_obj (n := 0) rfl (by decide)]
  have hrc := va_recv hK.1 hP hq he
  rw [hqC] at hrc
  have hpre : PreV s s.heap mX11_yard.1.cls (ad 0) (yd_Pc D cy ad A [.ref 0, .int (iI s0), .int (iI x0)] h) [.int (iI s0), .int (iI x0)] := ⟨yd_blind, hrc, fun U hU hW => ⟨rfl, by rw [hU]; exact hP, hD, by rw [hU]; exact hK.moved hW (fun _ _ _ => rfl), by rw [hU]; exact hZ.moved hW (fun _ _ _ => rfl)⟩⟩
  have hR : yd_rm.frames + 1 ≤ (headSpec hy_ws (hy_rm 1 6)).room.frames ∧ 8 + (mX11_yard.2.2.1 + 11) + yd_rm.locals ≤ (headSpec hy_ws (hy_rm 1 6)).room.locals := ⟨by show 61 ≤ 62; decide, by show 7702 ≤ 7936; decide⟩
  have hrun := vx_runV (l := l) (e := e) (below := below) (meth := meth) (locs := []) (cells := 0) (slots := 0) (R := (headSpec hy_ws (hy_rm 1 6)).room) (Ts := ab_T) (As := [.int (iI s0), .int (iI x0)]) (rest := [.int 0, .ref qo]) (g := F0 m 5 lsA [.int (iI x0), .int (iI s0), .ref (ad 0), .int 0, .ref qo]) ⟨hx, hb, hml, hown, hts⟩ (yd_met (D := D) (cy := cy) (ad := ad) (A := A) hst hs0 hx0 hv) ⟨callB_of 2 hts (ab_goodw g1) rfl rfl rfl (hts _ g2) (hts _ hy_l7) ⟨g4, g5, g6⟩ hR, hts _ f3, hts _ f4⟩ hpre rfl rfl hls.1 rfl (lv_room (Nat.le_of_ble_eq_true rfl)) dY_5 ⟨Nat.le_refl 1, Nat.le_refl 6⟩
  refine vx_calli hrun (A0 := F) (H0 := s.heap) va_S.rf (fun q _ z => hAF q z) (fun q z => hAF q z) (fun q _ z => hAF q z) (fun E ce q9 u t H1 locs1 ht hvm _ hB hz hk1 hS1 hc9 hv9 hcl => ?_) (fun r u t H1 locs1 _ _ hf => hf.elim)
  obtain ⟨rfl, hP1⟩ := hB
  rw [ht] at hP1
  refine vx_catch (own := RL) (name := NSE) hown [] ⟨0, 10, 13, 13⟩ [] htab (fun z hz => nomatch hz) (by decide) (by decide) (hts _ hy_k13) (hZ.2.2.use _ yd_cast) hc9 hv9 hcl ?_
  refine lv_astore (lv' := [(4, .ref q9), (0, .ref (ad 0)), (1, .int (iI s0)), (2, .int (iI x0)), (3, .ref qo)]) hx hb dY_13 hls (by decide) rfl (fun ls' hl' => ?_)
  refine lv_iconst (v := 1) hx hb dY_15 (by decide) ?_
  exact W.iret hx hb hr (fun t2 ht2 hW2 => ⟨⟨1, (), rfl, rfl, by rw [ht2]; exact hP1, by rw [ht2, hk1 qo (Array.getElem?_eq_some_iff.mp hO).1 hAq]; exact hO⟩, hS1.F ht2⟩) (fun q hq => hS1.2.2 q hq) dY_16 hlk
abbrev hy_QY (D : va_G) (cy : Nat → ClassId) (ad : Nat → Nat) (F : Nat → Prop) (qo : Nat) (o : Nat → Int64) (Q : ab_Q) : Array Value → State → Outcome → State → Prop := va_Qi (fun r (u : Int32 × ab_H) => r = 0 ∧ Q (some (.int u.1)) u.2) (fun u t => va_P D vwCl (ab_W cy ad u.2) t.heap ∧ t.heap[qo]? = some (vp_cell (cy 21) (1, .inr (.inl (vp_updL o 0 u.1.toInt64))))) F
theorem hy_Y {a0 b0 : Int32} {Q : ab_Q} (run : ab_X 60 mX11_yard 0 (lv_args 0 [.ref 0, .int a0, .int b0]) [] h Q) (hAF : ∀ q, A q → F q) (hFq : F qo) (hAq : ¬ A qo) :
    Met l yL_yard hy_ws (hy_rm 0 0) (hy_Pc D cy ad A qo o h a0 b0) (hy_QY D cy ad F qo o Q) 0 0 F := by
  refine hy_ofWH (cc := cL_yard) (maxL := 5) (ret := some .int) (hh := hy_h) (by decide +kernel) rfl ?_
  intro p e s m args below meth c s₁ B hml hpc
  obtain ⟨rfl, hP, hD, hK, hZ, hO⟩ := hpc
  have hts0 := atoms_spec (ws := hy_ws) B.pre
  have hts : ∀ w ∈ ab_T, w.before _ s = true := fun w hw => hts0 w (List.mem_cons_of_mem _ hw)
  have hx := B.exec
  have hb := B.bytes
  have hr := B.returns
  have hlk := B.notSynchronized
  have hown : s.vm.findClass RL = some m.cls := findClass_of_methodNamed B.named
  rw [lg_entry_eq]
  have hls := lv_entry ([.ref (ad 0), .int a0, .int b0, .ref qo] : List Value) (n := 5) (Nat.le_of_ble_eq_true rfl)
  generalize (lg_sl ([.ref (ad 0), .int a0, .int b0, .ref qo] : List Value) ++ List.replicate (5 - (lg_sl ([.ref (ad 0), .int a0, .int b0, .ref qo] : List Value)).length) Slot.unset).toArray = lsA at hls ⊢
  have hls : lv_has lsA 5 [(0, .ref (ad 0)), (1, .int a0), (2, .int b0), (3, .ref qo)] := hls
  refine lv_aload_n hx hb dY_0 rfl (lv_at hls 3 rfl) ?_
  refine lv_iconst (v := 0) hx hb dY_1 (by decide) ?_
  refine lv_aload_n hx hb dY_2 rfl (lv_at hls 0 rfl) ?_
  refine lv_iload_n hx hb dY_3 rfl (lv_at hls 1 rfl) ?_
  refine lv_iload_n hx hb dY_4 rfl (lv_at hls 2 rfl) ?_
  refine aw_call (F := F) (d := 60) (a := 0) (As := [.int a0, .int b0]) (rest := [.int 0, .ref qo]) hx hb hml hown hts hK hAF (fun _ _ _ => rfl) hP hD va_S.rf hls.1 dY_5 lL_7 rfl rfl (Nat.le_of_ble_eq_true rfl) (Nat.le_of_ble_eq_true rfl) (by show 61 ≤ 62; decide) (by show 7759 ≤ 7936; decide) (Nat.zero_le _) (Nat.zero_le _) rfl (ab_retI (Or.inl rfl) run) (fun r h' H' locs' hQ gP gk gS => ?_)
  obtain ⟨hQ, v, rfl⟩ := hQ
  have hO' : H'[qo]? = some (vp_cell (cy 21) (1, .inr (.inl o))) := by rw [gk qo (Array.getElem?_eq_some_iff.mp hO).1 hAq]; exact hO
  show W p l e (headSpec hy_ws (hy_rm 0 0)).room s m _ below meth c H' locs' 0 0 _ (F0 m 8 lsA [.int v, .int 0, .ref qo])
  refine lv_i2l hx hb dY_8 rfl ?_
  refine va_last (A := F) (D := D) (cl := vwCl) (ws := ab_W cy ad h' ++ [(qo, .inl (cy 21, 1, .inr (.inl o)))]) hx hb hK.1 (gP.app (yd_one (e := .inl (cy 21, 1, .inr (.inl o))) hO')) (yd_D (ab_D_any hD) hAF hAq hFq) gS ((ab_W cy ad h').length + 0) 1 (ac_get rfl) rfl (by unfold vp_in; decide) dY_9 (fun H2 locs2 hP2 hD2 hS2 => ?_)
  rw [ac_set] at hP2
  have gP2 : va_P D vwCl (ab_W cy ad h') H2 := fun k9 x9 h9 => hP2 k9 x9 (by rw [List.getElem?_append_left (List.getElem?_eq_some_iff.mp h9).1]; exact h9)
  have gO0 := hP2 ((ab_W cy ad h').length + 0) (qo, .inl (cy 21, 1, .inr (.inl (vp_updL o 0 v.toInt64)))) (ac_get rfl)
  have gO2 : H2[qo]? = some (vp_cell (cy 21) (1, .inr (.inl (vp_updL o 0 v.toInt64)))) := gO0
  refine lv_goto (tgt := 17) hx hb dY_10 (by decide) ?_
  refine lv_iconst (v := 0) hx hb dY_17 (by decide) ?_
  exact W.iret hx hb hr (fun t2 ht2 hW2 => ⟨⟨0, (v, h'), rfl, ⟨rfl, hQ⟩, by rw [ht2]; exact gP2, by rw [ht2]; exact gO2⟩, hS2.F ht2⟩) (fun q hq => hS2.2.2 q hq) dY_18 hlk
end HY
section LAW4
variable {p : Program} {l : Launch} {e : Env} {s : State} {m : MethodId} {below : List Frame} {meth : Method} {c : Code} {b L : Nat} {xs : Nat → Int32} {D : va_G} {cy : Nat → ClassId} {ad : Nat → Nat} {qo k n : Nat}
variable {pc : Nat} {ls : ab_L} {st : List Value} {h : ab_H} {o : Nat → Int64}
theorem al_cw {R : Room} {args : Array Value} {k0 n0 : Nat} (hts : ∀ w ∈ ab_T, w.before args s = true) (hR1 : 63 ≤ R.frames) (hR2 : 7960 ≤ R.locals) : vx_CSW R s args RL 38 yL_yard cL_yard 5 (some .int) hy_h hy_ws (hy_rm k0 n0) k0 n0 4 := by
  refine ⟨⟨rfl, rfl, hR1, ?_, pay_in hts hy_good, List.mem_cons_self⟩, hts _ hy_c, hts _ hy_i, ⟨by decide +kernel, by decide +kernel⟩, fun sig h => ?_, hts _ hy_l38, hts _ hy_s38⟩
  · show 8 + (5 + 11) + 7936 ≤ R.locals
    omega
  · have h2 : (parseMethodDescriptor yL_yard.desc).map (fun d => d.parameters.length) = some 4 := by decide +kernel
    rw [h] at h2
    exact (Option.some.inj h2).symm
theorem al_yardN {s0 x0 : Int} (C : al_C p s m meth c b L xs D cy ad qo) (hZ : yd_Z (al_A s qo) s s.heap) (hst : l.stackTraces = false) (hs0 : inR s0) (hx0 : inR x0) (hv : ¬ ((0 ≤ s0 ∧ s0 < zv h 15 0) ∧ 0 ≤ x0 ∧ x0 ≤ 2)) (hk : k + 1 ≤ 601024) (hn : n + 6 ≤ 7293034) (hd : decode code pc = .ok (.invokestatic 38, 3)) (kk : al_S p l e s m below meth c b D cy ad qo (k + 1) (n + 6) (pc + 3) ls [.int 1] h o) : al_S p l e s m below meth c b D cy ad qo k n pc ls [.ref qo, .int (iI x0), .int (iI s0), .ref (ad 0)] h o := by
  intro H locs lsA hP hD hS hO hls
  obtain ⟨⟨hx, hb, hr, hml, hown, hts0, hX, hbl, hlk, hgv⟩, hts, hK, hqo, hL⟩ := id C
  have hAq : ¬ al_A s qo qo := fun z => z.2 rfl
  have hold : ∀ q : Nat, q < s.heap.size → ¬ al_A s qo q → H[q]? = s.heap[q]? := fun q h1 _ => hS.2.1 q h1 (Nat.not_le.mpr h1)
  have hM := hy_N (l := l) (D := D) (cy := cy) (ad := ad) (A := al_A s qo) (F := k_A s) (qo := qo) (o := o) (h := h) hst hs0 hx0 hv (fun q z => z.1) hAq
  have hpre : PreS s H (hy_Pc D cy ad (al_A s qo) qo o h (iI s0) (iI x0)) [.ref (ad 0), .int (iI s0), .int (iI x0), .ref qo] := ⟨hy_blind, fun U hU hW => ⟨rfl, by rw [hU]; exact hP, hD, by rw [hU]; exact hK.moved hW hold, by rw [hU]; exact hZ.moved hW hold, by rw [hU]; exact hO⟩⟩
  have hrun := vx_runSW (l := l) (e := e) (below := below) (meth := meth) (locs := locs) (cells := k) (slots := n) (R := room_1) (Ts := ab_T) (own := RL) (As := [.ref (ad 0), .int (iI s0), .int (iI x0), .ref qo]) (rest := []) (g := F0 m pc lsA [.ref qo, .int (iI x0), .int (iI s0), .ref (ad 0)]) ⟨hx, hb, hml, hown, hts⟩ hM (al_cw hts (by decide) (by decide)) hpre rfl rfl hls.1 rfl (lv_room (Nat.le_of_ble_eq_true rfl)) hd ⟨hk, hn⟩
  refine va_calli hrun hS (fun q _ z => z) (fun q z => z) (fun r u t H1 locs1 ht hvm hp hB hz hk1 hS1 => ?_)
  obtain rfl : r = 1 := hp
  exact kk H1 locs1 lsA (by rw [← ht]; exact hB.1) hD hS1 (by rw [← ht]; exact hB.2) hls
theorem al_yardY {a0 b0 : Int32} {Q : ab_Q} (C : al_C p s m meth c b L xs D cy ad qo) (hZ : yd_Z (al_A s qo) s s.heap) (run : ab_X 60 mX11_yard 0 (lv_args 0 [.ref 0, .int a0, .int b0]) [] h Q) (hk : k ≤ 601024) (hn : n ≤ 7293034) (hd : decode code pc = .ok (.invokestatic 38, 3)) (kk : ∀ (v : Int32) (h' : ab_H) (o' : Nat → Int64), Q (some (.int v)) h' → o' 0 = v.toInt64 → al_S p l e s m below meth c b D cy ad qo k n (pc + 3) ls [.int 0] h' o') : al_S p l e s m below meth c b D cy ad qo k n pc ls [.ref qo, .int b0, .int a0, .ref (ad 0)] h o := by
  intro H locs lsA hP hD hS hO hls
  obtain ⟨⟨hx, hb, hr, hml, hown, hts0, hX, hbl, hlk, hgv⟩, hts, hK, hqo, hL⟩ := id C
  have hAq : ¬ al_A s qo qo := fun z => z.2 rfl
  have hold : ∀ q : Nat, q < s.heap.size → ¬ al_A s qo q → H[q]? = s.heap[q]? := fun q h1 _ => hS.2.1 q h1 (Nat.not_le.mpr h1)
  have hM := hy_Y (l := l) (D := D) (cy := cy) (ad := ad) (A := al_A s qo) (F := k_A s) (qo := qo) (o := o) run (fun q z => z.1) hqo hAq
  have hpre : PreS s H (hy_Pc D cy ad (al_A s qo) qo o h a0 b0) [.ref (ad 0), .int a0, .int b0, .ref qo] := ⟨hy_blind, fun U hU hW => ⟨rfl, by rw [hU]; exact hP, hD, by rw [hU]; exact hK.moved hW hold, by rw [hU]; exact hZ.moved hW hold, by rw [hU]; exact hO⟩⟩
  have hrun := vx_runSW (l := l) (e := e) (below := below) (meth := meth) (locs := locs) (cells := k) (slots := n) (R := room_1) (Ts := ab_T) (own := RL) (As := [.ref (ad 0), .int a0, .int b0, .ref qo]) (rest := []) (g := F0 m pc lsA [.ref qo, .int b0, .int a0, .ref (ad 0)]) ⟨hx, hb, hml, hown, hts⟩ hM (al_cw hts (by decide) (by decide)) hpre rfl rfl hls.1 rfl (lv_room (Nat.le_of_ble_eq_true rfl)) hd ⟨hk, hn⟩
  refine va_calli hrun hS (fun q _ z => z) (fun q z => z) (fun r u t H1 locs1 ht hvm hp hB hz hk1 hS1 => ?_)
  obtain ⟨rfl, hQ⟩ := hp
  exact kk u.1 u.2 _ hQ rfl H1 locs1 lsA (by rw [← ht]; exact hB.1) (ab_D_any hD) hS1 (by rw [← ht]; exact hB.2) hls
theorem lc_yard {i : Nat} (C : al_C p s m meth c b L xs D cy ad qo) (hZ : yd_Z (al_A s qo) s s.heap) (hst : l.stackTraces = false) (hi : i + 6 ≤ L) (hk : k + 1 ≤ 601024) (hn : n + 6 ≤ 7293034) (I : INV h) (K : ∀ h' o' k' n', INV h' → k' ≤ k + 1 → n' ≤ n + 6 → al_S p l e s m below meth c b D cy ad qo k' n' 1220 (al_ls b ad qo i) [] h' o') : al_S p l e s m below meth c b D cy ad qo k n 320 (al_ls b ad qo i) [] h o := by
  have hk0 : k ≤ 601024 := by omega
  have hn0 : n ≤ 7293034 := by omega
  obtain ⟨s0, hs0, e1⟩ : ∃ s0 : Int, inR s0 ∧ xs (i + 1) = iI s0 := ⟨_, inR_of _, (iI_of _).symm⟩
  obtain ⟨x0, hx0, e2⟩ : ∃ x0 : Int, inR x0 ∧ xs (i + 2) = iI x0 := ⟨_, inR_of _, (iI_of _).symm⟩
  refine al_aload_n (q := 1) C dL_law_320 rfl rfl ?_
  refine al_arg (z := 0) (q0 := 0) (q4 := 4) (j := 1) C rfl rfl rfl (by omega) dL_law_321 dL_law_322 dL_law_324 dL_law_325 dL_law_326 ?_
  refine al_arg (z := 0) (q0 := 0) (q4 := 4) (j := 2) C rfl rfl rfl (by omega) dL_law_327 dL_law_328 dL_law_330 dL_law_331 dL_law_332 ?_
  refine al_aload_n (q := 3) C dL_law_333 rfl rfl ?_
  rw [e1, e2]
  by_cases hv : (0 ≤ s0 ∧ s0 < zv h 15 0) ∧ 0 ≤ x0 ∧ x0 ≤ 2
  · refine al_yardY C hZ (s_yardY hs0 hx0 I hv) hk0 hn0 dL_law_334 (fun v h1 o1 q1 ho => ?_)
    refine al_istore (ls' := (5, .int 0) :: al_ls b ad qo i) C dL_law_337 (by decide) rfl ?_
    refine al_aload_n (q := 3) C dL_law_339 rfl rfl ?_
    refine al_arg (z := 0) (q0 := 1) (q4 := 5) (j := 1) C rfl rfl rfl (by omega) dL_law_340 dL_law_341 dL_law_343 dL_law_344 dL_law_345 ?_
    refine al_arg (z := 0) (q0 := 1) (q4 := 5) (j := 2) C rfl rfl rfl (by omega) dL_law_346 dL_law_347 dL_law_349 dL_law_350 dL_law_351 ?_
    rw [e1, e2]
    refine al_call (a := 200) (As := [.int (iI s0), .int (iI x0)]) (rest := []) C dL_law_352 lL_43 rfl rfl (Nat.le_of_ble_eq_true rfl) (Nat.le_of_ble_eq_true rfl) hk0 hn0 rfl q1 (fun r2 h2 q2 => ?_)
    obtain ⟨rfl, z0, I2⟩ := q2
    refine al_istore (ls' := (6, .int v) :: (5, .int 0) :: al_ls b ad qo i) C dL_law_355 (by decide) rfl ?_
    refine al_aload_n (q := 4) C dL_law_357 rfl rfl ?_
    refine al_call (a := 200) (As := []) (rest := []) C dL_law_358 lL_44 rfl rfl (Nat.le_of_ble_eq_true rfl) (Nat.le_of_ble_eq_true rfl) hk0 hn0 rfl (c_thrown (Q := fun r h' => r = some (.int (iI (zv h2 200 0))) ∧ h' = h2) ⟨rfl, rfl⟩) (fun r3 h3 q3 => ?_)
    obtain ⟨rfl, rfl⟩ := q3
    rw [z0]
    refine al_iload (q := 1) C dL_law_361 rfl ?_
    refine al_icmp_eq (tgt := 368) C dL_law_363 (by decide) (fun _ => ?_) (fun z => absurd rfl z)
    refine al_iload (q := 1) C dL_law_368 rfl ?_
    refine al_if_ne (tgt := 385) C dL_law_370 (by decide) (fun z => absurd rfl z) (fun _ => ?_)
    refine al_aload_n (q := 5) C dL_law_373 rfl rfl ?_
    refine al_iconst (z := 0) C dL_law_374 rfl ?_
    refine al_out0 C rfl dL_law_375 ?_
    refine al_iload (q := 0) C dL_law_376 rfl ?_
    refine al_i2l C dL_law_378 ?_
    refine al_lcmp C dL_law_379 ?_
    refine al_if_eq (tgt := 385) C dL_law_380 (by decide) (fun _ => ?_) (fun z => absurd (by rw [ho]; exact lg_cmp_rf _) z)
    refine al_goto (tgt := 1220) C dL_law_385 (by decide) ?_
    exact al_sub (ks := [2, 3, 4, 5, 6]) C rfl (K _ _ _ _ I2 (by omega) (by omega))
  · refine al_yardN C hZ hst hs0 hx0 hv hk hn dL_law_334 ?_
    refine al_istore (ls' := (5, .int 1) :: al_ls b ad qo i) C dL_law_337 (by decide) rfl ?_
    refine al_aload_n (q := 3) C dL_law_339 rfl rfl ?_
    refine al_arg (z := 0) (q0 := 1) (q4 := 5) (j := 1) C rfl rfl rfl (by omega) dL_law_340 dL_law_341 dL_law_343 dL_law_344 dL_law_345 ?_
    refine al_arg (z := 0) (q0 := 1) (q4 := 5) (j := 2) C rfl rfl rfl (by omega) dL_law_346 dL_law_347 dL_law_349 dL_law_350 dL_law_351 ?_
    rw [e1, e2]
    refine al_call (a := 200) (As := [.int (iI s0), .int (iI x0)]) (rest := []) C dL_law_352 lL_43 rfl rfl (Nat.le_of_ble_eq_true rfl) (Nat.le_of_ble_eq_true rfl) hk hn rfl (s_yardN hs0 hx0 I hv) (fun r2 h2 q2 => ?_)
    obtain ⟨rfl, z0, I2⟩ := q2
    refine al_istore (ls' := (6, .int (iI 0)) :: (5, .int 1) :: al_ls b ad qo i) C dL_law_355 (by decide) rfl ?_
    refine al_aload_n (q := 4) C dL_law_357 rfl rfl ?_
    refine al_call (a := 200) (As := []) (rest := []) C dL_law_358 lL_44 rfl rfl (Nat.le_of_ble_eq_true rfl) (Nat.le_of_ble_eq_true rfl) hk hn rfl (c_thrown (Q := fun r h' => r = some (.int (iI (zv h2 200 0))) ∧ h' = h2) ⟨rfl, rfl⟩) (fun r3 h3 q3 => ?_)
    obtain ⟨rfl, rfl⟩ := q3
    rw [z0]
    refine al_iload (q := 1) C dL_law_361 rfl ?_
    refine al_icmp_eq (tgt := 368) C dL_law_363 (by decide) (fun _ => ?_) (fun z => absurd rfl z)
    refine al_iload (q := 1) C dL_law_368 rfl ?_
    refine al_if_ne (tgt := 385) C dL_law_370 (by decide) (fun _ => ?_) (fun z => absurd z (by decide))
    refine al_goto (tgt := 1220) C dL_law_385 (by decide) ?_
    exact al_sub (ks := [2, 3, 4, 5, 6]) C rfl (K _ _ _ _ I2 (Nat.le_refl _) (Nat.le_refl _))
end LAW4
