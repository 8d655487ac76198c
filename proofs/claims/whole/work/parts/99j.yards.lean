/-! YARD where the class throws; the law's helper that catches it -/
def NSE : String := "java/util/NoSuchElementException"
def yd_names : List String := ["java/lang/RuntimeException", "java/lang/Exception"]
/-- the words of a throw that a warmed machine keeps by rows of their own -/
def yd_B : List Cond := [.castable NSE NSE, .declares ⟨"java/lang/RuntimeException", "<init>", "()V"⟩, .declares ⟨"java/lang/Exception", "<init>", "()V"⟩, .declares ⟨"java/lang/Throwable", "<init>", "()V"⟩]
theorem yd_at : ∀ w ∈ vx_at0 RX11 161 NSE yd_names, w ∈ ab_T ∨ w ∈ yd_B := by
  have h : (vx_at0 RX11 161 NSE yd_names).all (fun w => (decide (w ∈ tables_1) && goodWord w) || decide (w ∈ yd_B)) = true := by decide +kernel
  intro w hw
  have h1 := List.all_eq_true.mp h w hw
  simp only [Bool.or_eq_true, Bool.and_eq_true, decide_eq_true_eq] at h1
  exact h1.imp (fun q => ab_inT1 q.1 q.2) id
def yd_W (U : State) : Prop := ∀ w ∈ yd_B, va_Nw w U
theorem yd_tab : ∀ w ∈ yd_B, w.onTables = true := by decide +kernel
theorem yd_W.use {U : State} {args : Array Value} (h : yd_W U) : ∀ w ∈ yd_B, w.before args U = true := fun w hw => va_Nw.use (yd_tab w hw) (h w hw)
theorem yd_W.warm {s U : State} (hW : s.WarmedH U.vm) (h : yd_W s) : yd_W U := fun w hw => by
  have q := h w hw
  simp only [yd_B, List.mem_cons, List.not_mem_nil, or_false] at hw
  rcases hw with rfl | rfl | rfl | rfl
  · exact va_Nw.warmC hW q
  · exact va_Nw.warmD hW q
  · exact va_Nw.warmD hW q
  · exact va_Nw.warmD hW q
theorem yd_hat {s : State} {args : Array Value} (hts : ∀ w ∈ ab_T, w.before args s = true) (hd : yd_W s) : ∀ w ∈ vx_at0 RX11 161 NSE yd_names, w.before args s = true := fun w hw => (yd_at w hw).elim (hts w) (hd.use w)
theorem yd_k : Cond.classLink RX11 159 NSE ∈ ab_T := ab_inT1 (List.mem_of_getElem? (i := 996) (by decide +kernel)) (by decide +kernel)
theorem yd_i : Cond.initialized NSE ∈ ab_T := by
  have h : decide (Cond.initialized NSE ∈ tables_1) = true := by decide +kernel
  exact ab_inT1 (of_decide_eq_true h) (by decide +kernel)
theorem yd_g : ∀ w ∈ Cond.classLink RX11 159 NSE :: Cond.initialized NSE :: vx_at0 RX11 161 NSE yd_names, vx_ot w = true := by decide +kernel
theorem yd_cast : Cond.castable NSE NSE ∈ yd_B := List.mem_cons_self
/-- the two constants of Throwable that a throw reads -/
def yd_Z (A : Nat → Prop) (U : State) (H : Heap) : Prop := vx_Zq Bundle.tN "UNASSIGNED_STACK" Bundle.steD A U H ∧ vx_Zq Bundle.tN "SUPPRESSED_SENTINEL" Bundle.listD A U H ∧ yd_W U
theorem yd_Z.moved {A : Nat → Prop} {s U : State} {H H1 : Heap} (h : yd_Z A s H) (hW : s.WarmedH U.vm) (hq : ∀ a : Nat, a < H.size → ¬ A a → H1[a]? = H[a]?) : yd_Z A U H1 := ⟨vx_Zq.kept (vx_Zq.moved hW.alike h.1) hq, vx_Zq.kept (vx_Zq.moved hW.alike h.2.1) hq, yd_W.warm hW h.2.2⟩
section YD
variable {l : Launch} {D : va_G} {cy : Nat → ClassId} {ad : Nat → Nat} {A : Nat → Prop}
section AW
variable {p : Program} {e : Env} {R : Room} {s : State} {m : MethodId} {args : Array Value} {below : List Frame} {meth : Method} {c : Code} {H : Heap} {locs : List Loc} {lsA : Array Slot} {k n : Nat} {Z : State → Prop} {own : String} {cc : ByteArray} {nL pc : Nat} {h : ab_H}
theorem aw_get {idx a ci kf : Nat} {v : Value} {st : List Value} (hx : p.tables.exec = Jvm.exec) (hb : c.code = cc) (hown : s.vm.findClass own = some m.cls) (hts : ∀ w ∈ ab_T, w.before args s = true) (hK : ab_K D cy ad A s s.heap) (hP : va_P D vwCl (ab_W cy ad h) H) (hd : decode cc pc = .ok (.getfield idx, 3)) (hf : ab_fl own idx ci kf) (ha : ab_kd a = (ci, 0)) (hv : ab_fv ad (ab_tag ci kf) h a kf = v)
    (kk : W p l e R s m args below meth c H locs k n Z (F0 m (pc + 3) lsA (v :: st))) : W p l e R s m args below meth c H locs k n Z (F0 m pc lsA (.ref (ad a) :: st)) := by
  obtain ⟨q, hq, hk, hC, hw⟩ := hf
  obtain ⟨hci, hnf⟩ := ab_nf_ok ci q hq
  have hlt : a < ab_N := ab_kd_lt ha (by omega)
  have he : (ab_W cy ad h)[a]? = some (ad a, .inr (ci, ab_F ad ci h a)) := by rw [ab_W_get hlt, ab_E_obj ha hci]
  have hg : (ab_F ad ci h a)[kf]? = some v := by rw [ab_F_get (by rw [hnf]; exact hk), hv]
  rcases hw with hw | hw
  · exact va_get hx hb hts (ab_lay ci q hq) hown hK.1 hP a he hq kf hk (hts _ hw) (fun x hx' => by rw [hC] at hx'; exact hx') hg hd kk
  · exact va_getN (host := "KerbSide") hx hb hts (ab_lay ci q hq) hown hK.1 hP a he hq kf hk (va_Nw.use (by rfl) (hK.2.1 _ hw)) (fun x hx' => by rw [hC] at hx'; exact hx') hg hd kk
theorem aw_call {F : Nat → Prop} {d idx a ci na : Nat} {M : ab_M} {As rest st : List Value} {Q' : ab_Q} (hx : p.tables.exec = Jvm.exec) (hb : c.code = cc) (hml : c.maxLocals = nL) (hown : s.vm.findClass own = some m.cls) (hts : ∀ w ∈ ab_T, w.before args s = true) (hK : ab_K D cy ad A s s.heap) (hAF : ∀ q, A q → F q) (hold : ∀ q : Nat, q < s.heap.size → ¬ A q → H[q]? = s.heap[q]?) (hP : va_P D vwCl (ab_W cy ad h) H) (hD : va_D A (ab_W cy ad h)) (hS : va_S F s.heap H locs) (hsz : lsA.size = nL) (hd : decode cc pc = .ok (.invokevirtual idx, 3)) (hf : ab_lv own idx M ci na) (ha : ab_kd a = (ci, 0)) (hna : As.length = na) (hn : (lg_sl (.ref a :: As)).length ≤ M.2.2.1) (hw : (rest.map fun v => v.category).sum ≤ 8) (hR1 : d + 1 ≤ R.frames) (hR2 : 128 * d + 79 ≤ R.locals) (hk : k ≤ R.cells) (hn2 : n ≤ R.slots) (hs : (As.map (ab_cv ad)).reverse ++ .ref (ad a) :: rest = st) (run : ab_X d M 0 (lv_args 0 (.ref a :: As)) [] h Q')
    (kk : ∀ (r : Option Value) (h' : ab_H) (H' : Heap) (locs' : List Loc), Q' r h' → va_P D vwCl (ab_W cy ad h') H' → (∀ q : Nat, q < H.size → ¬ A q → H'[q]? = H[q]?) → va_S F s.heap H' locs' → W p l e R s m args below meth c H' locs' k n Z (F0 m (pc + 3) lsA ((r.map (ab_cv ad)).toList ++ rest))) : W p l e R s m args below meth c H locs k n Z (F0 m pc lsA st) := by
  subst hs
  obtain ⟨fl, ⟨g1, g2, g3, g4, g5, g6, g7⟩, f3, f4, q, hq, hqC⟩ := hf
  obtain ⟨hci, hnf⟩ := ab_nf_ok ci q hq
  have he : (ab_W cy ad h)[a]? = some (ad a, .inr (ci, ab_F ad ci h a)) := by rw [ab_W_get (ab_kd_lt ha (by omega)), ab_E_obj ha hci]
  have hM := ab_Met (l := l) (D := D) (cy := cy) (ad := ad) (A := A) g3 hn run
  have hrc := va_recv hK.1 hP hq he
  rw [hqC] at hrc
  have hpre : PreV s H M.1.cls (ad a) (ab_Pc D cy ad A (.ref a :: As) h) (As.map (ab_cv ad)) := ⟨ab_blind, hrc, fun U hU hW => ⟨rfl, by rw [hU]; exact hP, hD, by rw [hU]; exact hK.moved hW hold⟩⟩
  have hR : (ab_rm d).frames + 1 ≤ R.frames ∧ 8 + (M.2.2.1 + 11) + (ab_rm d).locals ≤ R.locals := ⟨hR1, by show 8 + (M.2.2.1 + 11) + 128 * d ≤ R.locals; omega⟩
  have hc9 : k + 0 ≤ R.cells ∧ n + 0 ≤ R.slots := ⟨hk, hn2⟩
  have fin : va_Run p l e R s m args below meth c H locs k n 0 0 (F0 m pc lsA ((As.map (ab_cv ad)).reverse ++ .ref (ad a) :: rest)) rest (ab_Qc D cy ad A Q' (Value.ref (ad a) :: As.map (ab_cv ad)).toArray) A := by
    rcases fl with fl | fl
    · exact va_runV (Ts := ab_T) (As := As.map (ab_cv ad)) ⟨hx, hb, hml, hown, hts⟩ hM ⟨callB_of na hts (ab_goodw g1) rfl rfl rfl (hts _ g2) (hts _ fl) ⟨g4, g5, g6⟩ hR, hts _ f3, hts _ f4⟩ hpre rfl (by rw [List.length_map]; exact hna) hsz rfl (lv_room hw) hd hc9
    · exact va_runVN (Ts := ab_T) (host := "KerbSide") (As := As.map (ab_cv ad)) ⟨hx, hb, hml, hown, hts⟩ hM ⟨va_cnB na hts (ab_goodw g1) rfl rfl rfl (hK.2.1 _ fl) (hts _ g2) ⟨g4, g5, g6⟩ hR, hts _ f3, hts _ f4⟩ hpre rfl (by rw [List.length_map]; exact hna) hsz rfl (lv_room hw) hd hc9
  intro T hT X
  obtain ⟨v, st₀, t, T', Ls, h0, X', hLs, e1, e2, ⟨⟨r, h', hv, hQ, hP'⟩, hz, hkp⟩, stp⟩ := fin T hT X
  have hv' : v = r.map (ab_cv ad) := by cases hv; rfl
  subst hv'
  rw [h0] at hz hkp
  have hS' : va_S F s.heap T'.heap (locs ++ Ls) := ⟨Nat.le_trans hS.1 (by rw [e1]; exact hz), fun q h1 h2 => by rw [e1, hkp q (Nat.lt_of_lt_of_le h1 hS.1) (fun z => h2 (hAF q z))]; exact hS.2.1 q h1 h2, fun q hq => by
    rcases List.mem_append.mp hq with h | h
    · exact hS.2.2 q h
    · exact hAF _ (hLs q h)⟩
  obtain ⟨t2, a1, b1⟩ := kk r h' T'.heap (locs ++ Ls) hQ (by rw [e1]; exact hP') (fun q h1 h2 => by rw [e1]; exact hkp q h1 h2) hS' T' rfl X'
  exact ⟨t2, stp t2 a1, b1⟩
end AW
def yd_rm : Room := { frames := 60, cells := 1, slots := 6, locals := 7680 }
def yd_Pc (D : va_G) (cy : Nat → ClassId) (ad : Nat → Nat) (A : Nat → Prop) (As : List Value) (h : ab_H) : Array Value → State → Prop := va_Pc (As.map (ab_cv ad)) (fun U => va_P D vwCl (ab_W cy ad h) U.heap ∧ va_D A (ab_W cy ad h) ∧ ab_K D cy ad A U U.heap ∧ yd_Z A U U.heap)
theorem yd_blind {As : List Value} {h : ab_H} : FrameBlind (yd_Pc D cy ad A As h) := by
  intro a U g mk q
  obtain ⟨q0, qP, qD, qK, qZ⟩ := q
  exact ⟨q0, qP, qD, ab_K.same (U := U.calling g mk a) qK rfl, yd_Z.moved (U := U.calling g mk a) qZ (State.WarmedH.refl U) (fun _ _ _ => rfl)⟩
abbrev yd_X (D : va_G) (cy : Nat → ClassId) (ad : Nat → Nat) (A : Nat → Prop) (h : ab_H) : String → State → State → Prop := vx_X (fun (_ : Unit) => True) (fun E _ t => E = NSE ∧ va_P D vwCl (ab_W cy ad h) t.heap) A
abbrev yd_Q (A : Nat → Prop) : Array Value → State → Outcome → State → Prop := va_Qi (fun _ (_ : Unit) => False) (fun _ _ => True) A
theorem yd_met {s0 x0 : Int} {h : ab_H} (hst : l.stackTraces = false) (hs0 : inR s0) (hx0 : inR x0) (hv : ¬ ((0 ≤ s0 ∧ s0 < zv h 15 0) ∧ 0 ≤ x0 ∧ x0 ≤ 2)) :
    vx_Met l mX11_yard.1 (ab_ws mX11_yard) yd_rm (yd_Pc D cy ad A [.ref 0, .int (iI s0), .int (iI x0)] h) (yd_Q A) (yd_X D cy ad A h) 1 6 A := by
  refine vx_ofW (cc := mX11_yard.2.1) (maxL := 3) (ret := some .int) (by decide +kernel) rfl ?_
  intro p e s m args below meth c s₁ B hml ht hpc
  obtain ⟨rfl, hP, hD, hK, hZ⟩ := hpc
  have hts0 := atoms_spec (ws := ab_ws mX11_yard) B.pre
  have hts : ∀ w ∈ ab_T, w.before _ s = true := fun w hw => hts0 w (List.mem_cons_of_mem _ hw)
  have hx := B.exec
  have hb := B.bytes
  have hlk := B.notSynchronized
  have hown : s.vm.findClass RX11 = some m.cls := findClass_of_methodNamed B.named
  rw [lg_entry_eq]
  have hls := lv_entry (([.ref 0, .int (iI s0), .int (iI x0)] : List Value).map (ab_cv ad)) (n := 3) (Nat.le_of_ble_eq_true rfl)
  generalize (lg_sl (([.ref 0, .int (iI s0), .int (iI x0)] : List Value).map (ab_cv ad)) ++ List.replicate (3 - (lg_sl (([.ref 0, .int (iI s0), .int (iI x0)] : List Value).map (ab_cv ad))).length) Slot.unset).toArray = lsA at hls ⊢
  have hls : lv_has lsA 3 [(0, .ref (ad 0)), (1, .int (iI s0)), (2, .int (iI x0))] := hls
  have thr : ∀ (H : Heap) (locs : List Loc), va_P D vwCl (ab_W cy ad h) H → va_S A s.heap H locs → W p l e (headSpec (ab_ws mX11_yard) yd_rm).room s m (([.ref 0, .int (iI s0), .int (iI x0)] : List Value).map (ab_cv ad)).toArray below meth c H locs 0 0 (vx_MQ below (yd_Q A) (yd_X D cy ad A h) (([.ref 0, .int (iI s0), .int (iI x0)] : List Value).map (ab_cv ad)).toArray s 1 6 A) (F0 m 20 lsA []) := fun H locs gP gS =>
    vx_throw0 (cls := NSE) (names := yd_names) hx hb hst hown (by decide +kernel) (by decide +kernel) (hts _ yd_k) (hts _ yd_i) (yd_hat hts hZ.2.2) yd_g hZ.1 hZ.2.1 gS (hls.1.trans hml.symm) dX11_yard_20 dX11_yard_23 dX11_yard_24 dX11_yard_27 (fun x hx => (ht x hx).elim) (by show 5 < 60; decide) (by show 81 ≤ 7680; decide) (Nat.le_refl 1) (Nat.le_refl 6) hlk
      (fun t _ hz hq => ⟨(), trivial, ⟨rfl, gP.kept (fun k9 x hx9 => hq x.1 ((gP k9 x hx9).lt))⟩, Nat.le_trans gS.1 hz, fun q h1 h2 => (hq q (Nat.lt_of_lt_of_le h1 gS.1)).trans (gS.2.1 q h1 h2)⟩) (fun z hz => gS.2.2 z hz) (Nat.le_refl _) (Nat.le_refl _)
  refine lv_aload_n hx hb dX11_yard_0 rfl (lv_at hls 0 rfl) ?_
  refine aw_get (a := 0) (v := .ref (ad 15)) hx hb hown hts hK hP dX11_yard_1 fX11_35 rfl rfl ?_
  refine lv_iload_n hx hb dX11_yard_4 rfl (lv_at hls 1 rfl) ?_
  refine aw_call (F := A) (d := 58) (a := 15) (As := [.int (iI s0)]) (rest := []) hx hb hml hown hts hK (fun _ q => q) (fun _ _ _ => rfl) hP hD va_S.rf hls.1 dX11_yard_5 lX11_155 rfl rfl (Nat.le_of_ble_eq_true rfl) (Nat.le_of_ble_eq_true rfl) (by show 59 ≤ 60; decide) (by show 7503 ≤ 7680; decide) (Nat.zero_le _) (Nat.zero_le _) rfl (Q' := fun r h' => h' = h ∧ ∃ v : Int, r = some (.int (iI v)) ∧ ((0 ≤ s0 ∧ s0 < zv h 15 0) ∧ v = 1 ∨ ¬ (0 ≤ s0 ∧ s0 < zv h 15 0) ∧ v = 0)) (c_hasYard hs0 (fun g => ⟨rfl, 1, rfl, Or.inl ⟨g, rfl⟩⟩) (fun g => ⟨rfl, 0, rfl, Or.inr ⟨g, rfl⟩⟩)) (fun r h' H' locs' hQ gP gk gS => ?_)
  obtain ⟨rfl, v, rfl, hvv⟩ := hQ
  show W p l e (headSpec (ab_ws mX11_yard) yd_rm).room s m _ below meth c H' locs' 0 0 _ (F0 m 8 lsA [.int (iI v)])
  refine lv_if_eq (tgt := 20) hx hb dX11_yard_8 (by decide) (fun _ => thr H' locs' gP gS) (fun c8 => ?_)
  have hy : 0 ≤ s0 ∧ s0 < zv h' 15 0 := by
    rcases hvv with ⟨q, _⟩ | ⟨_, q⟩
    · exact q
    · exact absurd (by rw [q]; rfl) c8
  refine lv_iload_n hx hb dX11_yard_11 rfl (lv_at hls 2 rfl) ?_
  refine lv_if_lt (tgt := 20) hx hb dX11_yard_12 (by decide) (fun _ => thr H' locs' gP gS) (fun c12 => ?_)
  refine lv_iload_n hx hb dX11_yard_15 rfl (lv_at hls 2 rfl) ?_
  refine lv_iconst (v := 2) hx hb dX11_yard_16 (by decide) ?_
  refine lv_icmp_le (tgt := 28) hx hb dX11_yard_17 (by decide) (fun c17 => ?_) (fun _ => thr H' locs' gP gS)
  exfalso
  have e1 : ¬ x0 < 0 := fun z => c12 ((iI_lt hx0 (by decide)).mpr z)
  have e2 : x0 ≤ 2 := (iI_le hx0 (by decide)).mp c17
  exact hv ⟨hy, by omega, e2⟩
end YD
