/-! THE CLAIM OUT OF ONE WALK OF THE LAW'S BODY. Your part is whole_start (and what it stands on); all else here is the same for every law, but numbers. -/
def R_law : String := "KerbSideLaw"
def lw_P (b : Addr) (xs : List Int32) (args : Array Value) (s : State) : Prop := args = #[.ref b] ∧ s.IntsAt b xs ∧ xs.length ≤ 3072 ∧ (Jvm.Cond.and given_1 narrow_1).before args s = true
def lw_Q (_ : Array Value) (s : State) (o : Outcome) (t : State) : Prop := o = .returned (some (.int 1)) ∧ Framed s o t [] 601024 7293034
def lw_Z (below : List Frame) (a : Array Value) (s : State) : State → Prop := fun t => ∃ o, t.status = .running ∧ Ended t below o ∧ lw_Q a s o t
/-- the law's own end, with 1 on the stack, nothing written that was there before, its room as the claim has it -/
theorem lw_ret {p : Program} {l : Launch} {e : Env} {s : State} {m : MethodId} {below : List Frame} {meth : Method} {c : Code} {b : Nat} (hx : p.tables.exec = Jvm.exec) (hb : c.code = code) (hr : meth.sig.returnType = ret) (hlocks : meth.locks = false) {pc : Nat} {H : Heap} {ls : Array Slot} (hdg : decode code pc = .ok (.ireturn, 1)) : W p l e room_1 s m #[Value.ref b] below meth c H [] 601024 7293034 (lw_Z below #[Value.ref b] s) (F0 m pc ls [.int 1]) := by
  intro T hT X
  obtain ⟨fs, hret, hrun, hended, hW, hframe⟩ := X.leave (v := some (.int 1)) (hlocks := hlocks) (fun h => by rw [hr] at h; cases h)
  have hmeth' : T.vm.method? m = some meth := X.method'
  refine ⟨T.setFrames fs, ?_, .returned (some (.int 1)), hrun, hended, rfl, ⟨_, rfl⟩, hW, hframe⟩
  jvm_step X.here [X.here.top, hx, hb, hdg, hmeth', hr, ret, narrow_b1]
  (try refine ⟨rfl, ?_⟩); (try refine ⟨rfl, ?_⟩)
  first | (intro acts; rw [hret _ acts rfl rfl rfl]) | rw [hret _ _ rfl rfl rfl]
  exact Steps.refl _
/-- what holds at the law's entry: the machine, the code, the tables' words (any of lw_tbl by 'hts w (by decide +kernel)'), the script of L ints xs at the cell b, what the Statement gives of the start (any of its parts by flat_of_before) -/
def lw_At (p : Program) (s : State) (m : MethodId) (meth : Method) (c : Code) (b L : Nat) (xs : Nat → Int32) : Prop :=
  p.tables.exec = Jvm.exec ∧ c.code = code ∧ meth.sig.returnType = ret ∧ c.maxLocals = 7 ∧ s.vm.findClass R_law = some m.cls ∧ (∀ w ∈ lw_tbl, w.before #[Value.ref b] s = true) ∧ va_X b L xs s s.heap ∧ b < s.heap.size ∧ meth.locks = false ∧ (Jvm.Cond.and given_1 narrow_1).before #[Value.ref b] s = true

/-! THE LAW'S FRAME (the head of this part is the skeleton's) -/
def al_A (s : State) (qo : Nat) : Nat → Prop := fun q => s.heap.size ≤ q ∧ q ≠ qo
/-- what stands over the whole loop -/
def al_C (p : Program) (s : State) (m : MethodId) (meth : Method) (c : Code) (b L : Nat) (xs : Nat → Int32) (D : va_G) (cy : Nat → ClassId) (ad : Nat → Nat) (qo : Nat) : Prop :=
  lw_At p s m meth c b L xs ∧ (∀ w ∈ ab_T, w.before #[Value.ref b] s = true) ∧ ab_K D cy ad (al_A s qo) s s.heap ∧ s.heap.size ≤ qo ∧ L ≤ 3072
def al_S (p : Program) (l : Launch) (e : Env) (s : State) (m : MethodId) (below : List Frame) (meth : Method) (c : Code) (b : Nat) (D : va_G) (cy : Nat → ClassId) (ad : Nat → Nat) (qo k n : Nat) (pc : Nat) (ls : ab_L) (st : List Value) (h : ab_H) (o : Nat → Int64) : Prop :=
  ∀ (H : Heap) (locs : List Loc) (lsA : Array Slot), va_P D vwCl (ab_W cy ad h) H → va_D (al_A s qo) (ab_W cy ad h) → va_S (k_A s) s.heap H locs → H[qo]? = some (vp_cell (cy 21) (1, .inr (.inl o))) → lv_has lsA 7 ls →
    W p l e room_1 s m #[Value.ref b] below meth c H locs k n (lw_Z below #[Value.ref b] s) (F0 m pc lsA st)
section LAW
variable {p : Program} {l : Launch} {e : Env} {s : State} {m : MethodId} {below : List Frame} {meth : Method} {c : Code} {b L : Nat} {xs : Nat → Int32} {D : va_G} {cy : Nat → ClassId} {ad : Nat → Nat} {qo k n : Nat}
variable {pc : Nat} {ls : ab_L} {st : List Value} {h : ab_H} {o : Nat → Int64}
theorem al_aload_n {j : Fin 4} {i q x : Nat} (C : al_C p s m meth c b L xs D cy ad qo) (hd : decode code pc = .ok (.aload_n j, 1)) (hi : (j : Nat) = i) (hl : ls[q]? = some (i, .ref x)) (kk : al_S p l e s m below meth c b D cy ad qo k n (pc + 1) ls (.ref x :: st) h o) : al_S p l e s m below meth c b D cy ad qo k n pc ls st h o := by
  intro H locs lsA hP hD hS hO hls
  obtain ⟨⟨hx, hb, hr, hml, hown, hts0, hX, hbl, hlk, hgv⟩, hts, hK, hqo, hL⟩ := id C
  exact lv_aload_n hx hb hd hi (lv_at hls q hl) (kk H locs lsA hP hD hS hO hls)
theorem al_iload {i q : Nat} {x : Int32} (C : al_C p s m meth c b L xs D cy ad qo) (hd : decode code pc = .ok (.iload i, 2)) (hl : ls[q]? = some (i, .int x)) (kk : al_S p l e s m below meth c b D cy ad qo k n (pc + 2) ls (.int x :: st) h o) : al_S p l e s m below meth c b D cy ad qo k n pc ls st h o := by
  intro H locs lsA hP hD hS hO hls
  obtain ⟨⟨hx, hb, hr, hml, hown, hts0, hX, hbl, hlk, hgv⟩, hts, hK, hqo, hL⟩ := id C
  exact lv_iload hx hb hd (lv_at hls q hl) (kk H locs lsA hP hD hS hO hls)
theorem al_iconst {v : Int} {z : Int32} (C : al_C p s m meth c b L xs D cy ad qo) (hd : decode code pc = .ok (.iconst v, 1)) (hv : Int32.ofInt v = z) (kk : al_S p l e s m below meth c b D cy ad qo k n (pc + 1) ls (.int z :: st) h o) : al_S p l e s m below meth c b D cy ad qo k n pc ls st h o := by
  intro H locs lsA hP hD hS hO hls
  obtain ⟨⟨hx, hb, hr, hml, hown, hts0, hX, hbl, hlk, hgv⟩, hts, hK, hqo, hL⟩ := id C
  exact lv_iconst hx hb hd hv (kk H locs lsA hP hD hS hO hls)
theorem al_bipush {v : Int} {z : Int32} (C : al_C p s m meth c b L xs D cy ad qo) (hd : decode code pc = .ok (.bipush v, 2)) (hv : (Int8.ofInt v).toInt32 = z) (kk : al_S p l e s m below meth c b D cy ad qo k n (pc + 2) ls (.int z :: st) h o) : al_S p l e s m below meth c b D cy ad qo k n pc ls st h o := by
  intro H locs lsA hP hD hS hO hls
  obtain ⟨⟨hx, hb, hr, hml, hown, hts0, hX, hbl, hlk, hgv⟩, hts, hK, hqo, hL⟩ := id C
  exact lv_bipush hx hb hd hv (kk H locs lsA hP hD hS hO hls)
theorem al_iadd {x y : Int32} (C : al_C p s m meth c b L xs D cy ad qo) (hd : decode code pc = .ok (.iadd, 1)) (kk : al_S p l e s m below meth c b D cy ad qo k n (pc + 1) ls (.int (x + y) :: st) h o) : al_S p l e s m below meth c b D cy ad qo k n pc ls (.int y :: .int x :: st) h o := by
  intro H locs lsA hP hD hS hO hls
  obtain ⟨⟨hx, hb, hr, hml, hown, hts0, hX, hbl, hlk, hgv⟩, hts, hK, hqo, hL⟩ := id C
  exact lv_iadd hx hb hd (kk H locs lsA hP hD hS hO hls)
theorem al_isub {x y : Int32} (C : al_C p s m meth c b L xs D cy ad qo) (hd : decode code pc = .ok (.isub, 1)) (kk : al_S p l e s m below meth c b D cy ad qo k n (pc + 1) ls (.int (x - y) :: st) h o) : al_S p l e s m below meth c b D cy ad qo k n pc ls (.int y :: .int x :: st) h o := by
  intro H locs lsA hP hD hS hO hls
  obtain ⟨⟨hx, hb, hr, hml, hown, hts0, hX, hbl, hlk, hgv⟩, hts, hK, hqo, hL⟩ := id C
  exact lv_isub hx hb hd (kk H locs lsA hP hD hS hO hls)
theorem al_iand {x y : Int32} (C : al_C p s m meth c b L xs D cy ad qo) (hd : decode code pc = .ok (.iand, 1)) (kk : al_S p l e s m below meth c b D cy ad qo k n (pc + 1) ls (.int (x &&& y) :: st) h o) : al_S p l e s m below meth c b D cy ad qo k n pc ls (.int y :: .int x :: st) h o := by
  intro H locs lsA hP hD hS hO hls
  obtain ⟨⟨hx, hb, hr, hml, hown, hts0, hX, hbl, hlk, hgv⟩, hts, hK, hqo, hL⟩ := id C
  exact lv_iand hx hb hd (kk H locs lsA hP hD hS hO hls)
theorem al_goto {off : Int} {tgt : Nat} (C : al_C p s m meth c b L xs D cy ad qo) (hd : decode code pc = .ok (.goto off, 3)) (ht : (pc : Int) + off = (tgt : Int)) (kk : al_S p l e s m below meth c b D cy ad qo k n tgt ls st h o) : al_S p l e s m below meth c b D cy ad qo k n pc ls st h o := by
  intro H locs lsA hP hD hS hO hls
  obtain ⟨⟨hx, hb, hr, hml, hown, hts0, hX, hbl, hlk, hgv⟩, hts, hK, hqo, hL⟩ := id C
  exact lv_goto hx hb hd ht (kk H locs lsA hP hD hS hO hls)
theorem al_icmp_eq {x y : Int32} {off : Int} {tgt : Nat} (C : al_C p s m meth c b L xs D cy ad qo) (hd : decode code pc = .ok (.if_icmp .eq off, 3)) (ht : (pc : Int) + off = (tgt : Int)) (k1 : x = y → al_S p l e s m below meth c b D cy ad qo k n tgt ls st h o) (k2 : ¬ x = y → al_S p l e s m below meth c b D cy ad qo k n (pc + 3) ls st h o) : al_S p l e s m below meth c b D cy ad qo k n pc ls (.int y :: .int x :: st) h o := by
  intro H locs lsA hP hD hS hO hls
  obtain ⟨⟨hx, hb, hr, hml, hown, hts0, hX, hbl, hlk, hgv⟩, hts, hK, hqo, hL⟩ := id C
  exact lv_icmp_eq hx hb hd ht (fun q => k1 q H locs lsA hP hD hS hO hls) (fun q => k2 q H locs lsA hP hD hS hO hls)
theorem al_icmp_gt {x y : Int32} {off : Int} {tgt : Nat} (C : al_C p s m meth c b L xs D cy ad qo) (hd : decode code pc = .ok (.if_icmp .gt off, 3)) (ht : (pc : Int) + off = (tgt : Int)) (k1 : y < x → al_S p l e s m below meth c b D cy ad qo k n tgt ls st h o) (k2 : ¬ y < x → al_S p l e s m below meth c b D cy ad qo k n (pc + 3) ls st h o) : al_S p l e s m below meth c b D cy ad qo k n pc ls (.int y :: .int x :: st) h o := by
  intro H locs lsA hP hD hS hO hls
  obtain ⟨⟨hx, hb, hr, hml, hown, hts0, hX, hbl, hlk, hgv⟩, hts, hK, hqo, hL⟩ := id C
  exact lv_icmp_gt hx hb hd ht (fun q => k1 q H locs lsA hP hD hS hO hls) (fun q => k2 q H locs lsA hP hD hS hO hls)
theorem al_iinc {i q : Nat} {v : Int} {x y : Int32} {ls' : ab_L} (C : al_C p s m meth c b L xs D cy ad qo) (hd : decode code pc = .ok (.iinc i v, 3)) (hk : ls[q]? = some (i, .int x)) (hv : x + Int32.ofInt v = y) (hn : i < 7) (hl : ab_st1 i (.int y) ls = ls') (kk : al_S p l e s m below meth c b D cy ad qo k n (pc + 3) ls' st h o) : al_S p l e s m below meth c b D cy ad qo k n pc ls st h o := by
  intro H locs lsA hP hD hS hO hls
  obtain ⟨⟨hx, hb, hr, hml, hown, hts0, hX, hbl, hlk, hgv⟩, hts, hK, hqo, hL⟩ := id C
  subst hl
  exact lv_iinc hx hb hd hls hk hv hn rfl (fun ls' hl' => kk H locs ls' hP hD hS hO hl')
theorem al_sub {ls' : ab_L} {ks : List Nat} (C : al_C p s m meth c b L xs D cy ad qo) (hl : lv_pick ls ks = ls') (kk : al_S p l e s m below meth c b D cy ad qo k n pc ls' st h o) : al_S p l e s m below meth c b D cy ad qo k n pc ls st h o := by
  intro H locs lsA hP hD hS hO hls
  obtain ⟨⟨hx, hb, hr, hml, hown, hts0, hX, hbl, hlk, hgv⟩, hts, hK, hqo, hL⟩ := id C
  exact kk H locs lsA hP hD hS hO (lv_sub hls ks hl)
theorem al_sld {i : Int32} (C : al_C p s m meth c b L xs D cy ad qo) (hi : vp_in i L) (hd : decode code pc = .ok (.iaload, 1)) (kk : al_S p l e s m below meth c b D cy ad qo k n (pc + 1) ls (.int (xs i.toNatClampNeg) :: st) h o) : al_S p l e s m below meth c b D cy ad qo k n pc ls (.int i :: .ref b :: st) h o := by
  intro H locs lsA hP hD hS hO hls
  obtain ⟨⟨hx, hb, hr, hml, hown, hts0, hX, hbl, hlk, hgv⟩, hts, hK, hqo, hL⟩ := id C
  exact va_sld (A := k_A s) hx hb hX hbl (Nat.not_le.mpr hbl) hS hi hd (kk H locs lsA hP hD hS hO hls)
theorem al_slen  (C : al_C p s m meth c b L xs D cy ad qo) (hd : decode code pc = .ok (.arraylength, 1)) (kk : al_S p l e s m below meth c b D cy ad qo k n (pc + 1) ls (.int (Int32.ofNat L) :: st) h o) : al_S p l e s m below meth c b D cy ad qo k n pc ls (.ref b :: st) h o := by
  intro H locs lsA hP hD hS hO hls
  obtain ⟨⟨hx, hb, hr, hml, hown, hts0, hX, hbl, hlk, hgv⟩, hts, hK, hqo, hL⟩ := id C
  exact va_slen (A := k_A s) hx hb hX hbl (Nat.not_le.mpr hbl) hS hd (kk H locs lsA hP hD hS hO hls)
theorem al_ret  (C : al_C p s m meth c b L xs D cy ad qo) (hk : k ≤ 601024) (hn : n ≤ 7293034) (hd : decode code pc = .ok (.ireturn, 1)) : al_S p l e s m below meth c b D cy ad qo k n pc ls [.int 1] h o := by
  intro H locs lsA hP hD hS hO hls
  obtain ⟨⟨hx, hb, hr, hml, hown, hts0, hX, hbl, hlk, hgv⟩, hts, hK, hqo, hL⟩ := id C
  exact va_forget (fun q hq => hS.2.2 q hq) (W.widen hk hn (lw_ret hx hb hr hlk hd))
theorem al_nI (i j : Nat) : nI i + nI j = nI (i + j) := by
  unfold nI
  exact (Int32.ofNat_add i j).symm
/-- an int of the script: five instructions -/
theorem al_arg {i q0 q4 j : Nat} {z : Int32} (C : al_C p s m meth c b L xs D cy ad qo) (h0 : ls[q0]? = some (0, .ref b)) (h4 : ls[q4]? = some (4, .int (nI i))) (hj : Int32.ofInt (j : Int) = nI j) (hlt : i + j < L) (d0 : decode code pc = .ok (.aload_n 0, 1)) (d1 : decode code (pc + 1) = .ok (.iload 4, 2)) (d2 : decode code (pc + 3) = .ok (.iconst (j : Int), 1)) (d3 : decode code (pc + 4) = .ok (.iadd, 1)) (d4 : decode code (pc + 5) = .ok (.iaload, 1)) (kk : al_S p l e s m below meth c b D cy ad qo k n (pc + 6) ls (.int (xs (i + j)) :: st) h o) : al_S p l e s m below meth c b D cy ad qo k n pc ls st h o := by
  have hL := C.2.2.2.2
  refine al_aload_n (q := q0) C d0 rfl h0 ?_
  refine al_iload (q := q4) C d1 h4 ?_
  refine al_iconst C d2 hj ?_
  refine al_iadd C d3 ?_
  rw [al_nI]
  refine al_sld C (nI_in hlt (by omega)) d4 ?_
  rw [nI_clamp (by omega)]
  exact kk
/-- a call of the class or of the model, by its run of the abstract machine -/
theorem al_call {idx a ci na : Nat} {M : ab_M} {As rest : List Value} {Q' : ab_Q} (C : al_C p s m meth c b L xs D cy ad qo) (hd : decode code pc = .ok (.invokevirtual idx, 3)) (hf : ab_lv RL idx M ci na) (ha : ab_kd a = (ci, 0)) (hna : As.length = na) (hn : (lg_sl (.ref a :: As)).length ≤ M.2.2.1) (hw : (rest.map fun v => v.category).sum ≤ 8) (hk : k ≤ 601024) (hn2 : n ≤ 7293034) (hs : (As.map (ab_cv ad)).reverse ++ .ref (ad a) :: rest = st) (run : ab_X 60 M 0 (lv_args 0 (.ref a :: As)) [] h Q')
    (kk : ∀ (r : Option Value) (h' : ab_H), Q' r h' → al_S p l e s m below meth c b D cy ad qo k n (pc + 3) ls ((r.map (ab_cv ad)).toList ++ rest) h' o) : al_S p l e s m below meth c b D cy ad qo k n pc ls st h o := by
  subst hs
  intro H locs lsA hP hD hS hO hls
  obtain ⟨⟨hx, hb, hr, hml, hown, hts0, hX, hbl, hlk, hgv⟩, hts, hK, hqo, hL⟩ := id C
  obtain ⟨fl, ⟨g1, g2, g3, g4, g5, g6, g7⟩, f3, f4, q, hq, hqC⟩ := hf
  obtain ⟨hci, hnf⟩ := ab_nf_ok ci q hq
  have he : (ab_W cy ad h)[a]? = some (ad a, .inr (ci, ab_F ad ci h a)) := by rw [ab_W_get (ab_kd_lt ha (by omega)), ab_E_obj ha hci]
  have hM := ab_Met (l := l) (D := D) (cy := cy) (ad := ad) (A := al_A s qo) g3 hn run
  have hrc := va_recv hK.1 hP hq he
  rw [hqC] at hrc
  have hold : ∀ q : Nat, q < s.heap.size → ¬ al_A s qo q → H[q]? = s.heap[q]? := fun q h1 _ => hS.2.1 q h1 (Nat.not_le.mpr h1)
  have hpre : PreV s H M.1.cls (ad a) (ab_Pc D cy ad (al_A s qo) (.ref a :: As) h) (As.map (ab_cv ad)) := ⟨ab_blind, hrc, fun U hU hW => ⟨rfl, by rw [hU]; exact hP, hD, by rw [hU]; exact hK.moved hW hold⟩⟩
  have hR : (ab_rm 60).frames + 1 ≤ room_1.frames ∧ 8 + (M.2.2.1 + 11) + (ab_rm 60).locals ≤ room_1.locals := ⟨by decide, by show 8 + (M.2.2.1 + 11) + 128 * 60 ≤ 84000; omega⟩
  have hc9 : k + 0 ≤ room_1.cells ∧ n + 0 ≤ room_1.slots := ⟨hk, hn2⟩
  have fin : va_Run p l e room_1 s m #[Value.ref b] below meth c H locs k n 0 0 (F0 m pc lsA ((As.map (ab_cv ad)).reverse ++ .ref (ad a) :: rest)) rest (ab_Qc D cy ad (al_A s qo) Q' (Value.ref (ad a) :: As.map (ab_cv ad)).toArray) (al_A s qo) := by
    rcases fl with fl | fl
    · exact va_runV (Ts := ab_T) (As := As.map (ab_cv ad)) ⟨hx, hb, hml, hown, hts⟩ hM ⟨callB_of na hts (ab_goodw g1) rfl rfl rfl (hts _ g2) (hts _ fl) ⟨g4, g5, g6⟩ hR, hts _ f3, hts _ f4⟩ hpre rfl (by rw [List.length_map]; exact hna) hls.1 rfl (lv_room hw) hd hc9
    · exact va_runVN (Ts := ab_T) (host := "KerbSide") (As := As.map (ab_cv ad)) ⟨hx, hb, hml, hown, hts⟩ hM ⟨va_cnB na hts (ab_goodw g1) rfl rfl rfl (hK.2.1 _ fl) (hts _ g2) ⟨g4, g5, g6⟩ hR, hts _ f3, hts _ f4⟩ hpre rfl (by rw [List.length_map]; exact hna) hls.1 rfl (lv_room hw) hd hc9
  intro T hT X
  obtain ⟨v, st₀, t, T', Ls, h0, X', hLs, e1, e2, ⟨⟨r, h', hv, hQ, hP'⟩, hz, hkp⟩, stp⟩ := fin T hT X
  have hv' : v = r.map (ab_cv ad) := by cases hv; rfl
  subst hv'
  rw [h0] at hz hkp
  have hS' : va_S (k_A s) s.heap T'.heap (locs ++ Ls) := ⟨Nat.le_trans hS.1 (by rw [e1]; exact hz), fun q h1 h2 => by rw [e1, hkp q (Nat.lt_of_lt_of_le h1 hS.1) (fun z => h2 z.1)]; exact hS.2.1 q h1 h2, fun q hq => by
    rcases List.mem_append.mp hq with h | h
    · exact hS.2.2 q h
    · exact (hLs q h).1⟩
  have hO' : T'.heap[qo]? = some (vp_cell (cy 21) (1, .inr (.inl o))) := by
    rw [e1, hkp qo (Array.getElem?_eq_some_iff.mp hO).1 (fun z => z.2 rfl)]; exact hO
  obtain ⟨t2, a1, b1⟩ := kk r h' hQ T'.heap (locs ++ Ls) lsA (by rw [e1]; exact hP') (ab_D_any hD) hS' hO' hls T' rfl X'
  exact ⟨t2, stp t2 a1, b1⟩
end LAW
