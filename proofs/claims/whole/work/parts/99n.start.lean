/-! THE LAW FROM ITS ENTRY -/
theorem kn_L_8 : ac_nw RL 8 11 18 [.null, .null, .null, .null, .null, .int 0, .int 0, .null, .null, .null, .int 0, .null, .null, .null, .null, .null, .null, .long 0] := ⟨(RX11, TX11, 18), tyX11, rfl, rfl, tyX11_ok, ab_inT1 (List.mem_of_getElem? (i := 24) (by decide +kernel)) (by decide +kernel), ab_inT1 (List.mem_of_getElem? (i := 25) (by decide +kernel)) (by decide +kernel), ab_inT1 (List.mem_of_getElem? (i := 1) (by decide +kernel)) (by decide +kernel), fun j hj => (show ∀ j, j < 18 → defaultValue (tyX11 j) = vp_V [.null, .null, .null, .null, .null, .int 0, .int 0, .null, .null, .null, .int 0, .null, .null, .null, .null, .null, .null, .long 0] j by decide +kernel) j hj⟩
theorem kn_L_16 : ac_nw RL 16 12 55 [.int 0, .null, .null, .null, .null, .null, .int 0, .int 0, .int 0, .int 0, .int 0, .int 0, .int 0, .int 0, .int 0, .null, .null, .int 0, .null, .null, .null, .null, .null, .null, .int 0, .int 0, .int 0, .int 0, .int 0, .null, .null, .null, .int 0, .int 0, .null, .null, .null, .int 0, .long 0, .null, .null, .null, .null, .null, .int 0, .int 0, .null, .null, .null, .int 0, .int 0, .null, .null, .null, .int 0] := ⟨(RX12, TX12, 55), tyX12, rfl, rfl, tyX12_ok, ab_inT1 (List.mem_of_getElem? (i := 1058) (by decide +kernel)) (by decide +kernel), ab_inT1 (List.mem_of_getElem? (i := 1059) (by decide +kernel)) (by decide +kernel), ab_inT1 (List.mem_of_getElem? (i := 13) (by decide +kernel)) (by decide +kernel), fun j hj => (show ∀ j, j < 55 → defaultValue (tyX12 j) = vp_V [.int 0, .null, .null, .null, .null, .null, .int 0, .int 0, .int 0, .int 0, .int 0, .int 0, .int 0, .int 0, .int 0, .null, .null, .int 0, .null, .null, .null, .null, .null, .null, .int 0, .int 0, .int 0, .int 0, .int 0, .null, .null, .null, .int 0, .int 0, .null, .null, .null, .int 0, .long 0, .null, .null, .null, .null, .null, .int 0, .int 0, .null, .null, .null, .int 0, .int 0, .null, .null, .null, .int 0] j by decide +kernel) j hj⟩
theorem kl_L_15 : Cond.methodLink RL 15 mX11_init.1 ∈ ab_T := ab_inT1 (List.mem_of_getElem? (i := 26) (by decide +kernel)) (by decide +kernel)
theorem kl_L_18 : Cond.methodLink RL 18 mX12_init.1 ∈ ab_T := ab_inT1 (List.mem_of_getElem? (i := 1060) (by decide +kernel)) (by decide +kernel)
theorem k_Z {s : State} {b : Nat} (hts0 : ∀ w ∈ lw_tbl, w.before #[Value.ref b] s = true) (hgv : (Cond.and given_1 narrow_1).before #[Value.ref b] s = true) : yd_Z (k_A s) s s.heap := by
  have hts : ∀ w ∈ tables_1, w.before #[Value.ref b] s = true := fun w hw => hts0 w (k_mem hw)
  have hs := flat_of_before _ hgv
  refine ⟨vx_Zqof (hts _ (List.mem_of_getElem? (i := 1023) (by decide +kernel))) (hts (.initialized Bundle.tN) (List.mem_of_getElem? (i := 20) (by decide +kernel))) (hs _ (by decide +kernel)) k_nA, vx_Zqof (hts _ (List.mem_of_getElem? (i := 1025) (by decide +kernel))) (hts (.initialized Bundle.tN) (List.mem_of_getElem? (i := 20) (by decide +kernel))) (hs _ (by decide +kernel)) k_nA, fun w hw => ?_⟩
  have h : yd_B.all (fun w => decide (w ∈ tables_1)) = true := by decide +kernel
  exact va_Nw.of (yd_tab w hw) (hts w (of_decide_eq_true (List.all_eq_true.mp h w hw)))
section STA
variable {p : Program} {l : Launch} {e : Env} {s : State} {m : MethodId} {below : List Frame} {meth : Method} {c : Code} {b L : Nat} {xs : Nat → Int32} {D : va_G} {cy : Nat → ClassId} {ad : Nat → Nat} {k n pc : Nat} {H : Heap} {locs : List Loc} {lsA : Array Slot}
theorem al_new {i ci N : Nat} {fs st : List Value} {xs0 : va_W} (C0 : lw_At p s m meth c b L xs) (hts : ∀ w ∈ ab_T, w.before #[Value.ref b] s = true) (hK : ab_K D cy ad (k_A s) s s.heap) (hP : va_P D vwCl xs0 H) (hD : va_D (k_A s) xs0) (hS : va_S (k_A s) s.heap H locs) (hd : decode code pc = .ok (.new i, 3)) (hf : ac_nw RL i ci N fs) (h1 : k + 1 ≤ 601024) (h2 : n + N ≤ 7293034)
    (kk : ∀ (a : Nat) (H1 : Heap), va_P D vwCl (xs0 ++ [(a, .inr (ci, fs))]) H1 → va_D (k_A s) (xs0 ++ [(a, .inr (ci, fs))]) → va_S (k_A s) s.heap H1 locs → W p l e room_1 s m #[Value.ref b] below meth c  H1 locs (k + 1) (n + N) (lw_Z below #[Value.ref b] s) (F0 m (pc + 3) lsA (.ref a :: st))) : W p l e room_1 s m #[Value.ref b] below meth c  H locs k n (lw_Z below #[Value.ref b] s) (F0 m pc lsA st) := by
  obtain ⟨hx, hb, hr, hml, hown, hts0, hX, hbl, hlk, hgv⟩ := id C0
  obtain ⟨⟨C9, T9, N9⟩, ty, hq, rfl, hty, w1, w2, w3, hfs⟩ := hf
  exact va_new (ci := ci) (fs := fs) hx hb hts (ab_lay ci _ hq) ty hty hown (hts _ w1) (hts _ w2) (hts _ w3) hK.1 hP hD hS (fun _ h => h) hq hfs h1 h2 hd kk
theorem al_init {i a mc' ms' d : Nat} {M' : ab_M} {rest : List Value} {w0 zs : va_W} {Q : va_W → Prop} (C0 : lw_At p s m meth c b L xs) (hts : ∀ w ∈ ab_T, w.before #[Value.ref b] s = true) (hK : ab_K D cy ad (k_A s) s s.heap) (o1 : va_AO "KerbSide$Rule" s) (o2 : va_AO "KerbSide$Street" s) (o3 : va_AOA .long s) (hP : va_P D vwCl (w0 ++ zs) H) (hD : va_D (k_A s) (w0 ++ zs)) (hS : va_S (k_A s) s.heap H locs) (hsz : lsA.size = 7) (hd : decode code pc = .ok (.invokespecial i, 3)) (hl : Cond.methodLink RL i M'.1 ∈ ab_T) (hok : ab_ok M' 0) (gi : M'.1.name = "<init>") (gr : M'.2.2.2 = none) (f3 : Cond.instanceMethod M'.1 ∈ ab_T) (hn : (lg_sl [.ref a]).length ≤ M'.2.2.1) (hw : (rest.map fun v => v.category).sum ≤ 8) (hd6 : d ≤ 60) (h1 : k + mc' ≤ 601024) (h2 : n + ms' ≤ 7293034)
    (body : ac_S l D cy ad (k_A s) mc' ms' d M' 0 (lv_args 0 [.ref a]) [] w0 zs 0 0 Q)
    (kk : ∀ (zs' : va_W) (H1 : Heap) (locs1 : List Loc), Q zs' → va_P D vwCl (w0 ++ zs') H1 → va_D (k_A s) (w0 ++ zs') → va_S (k_A s) s.heap H1 locs1 → W p l e room_1 s m #[Value.ref b] below meth c  H1 locs1 (k + mc') (n + ms') (lw_Z below #[Value.ref b] s) (F0 m (pc + 3) lsA rest)) : W p l e room_1 s m #[Value.ref b] below meth c  H locs k n (lw_Z below #[Value.ref b] s) (F0 m pc lsA (.ref a :: rest)) := by
  obtain ⟨hx, hb, hr, hml, hown, hts0, hX, hbl, hlk, hgv⟩ := id C0
  obtain ⟨g1, g2, g3, g4, g5, g6, g7⟩ := hok
  have hM := ac_met (l := l) g3 gi hn body
  have hpre : PreS s H (ac_Pc D cy ad (k_A s) [.ref a] (w0 ++ zs)) [.ref a] := ⟨ac_blind, fun U hU hW => ⟨rfl, by rw [hU]; exact hP, hD, by rw [hU]; exact hK.moved hW hS.2.1, fun q hq => Nat.le_trans hS.1 (by rw [hU] at hq; exact hq), va_AO.moved hW.alike o1, va_AO.moved hW.alike o2, va_AOA.moved hW.alike o3⟩⟩
  have hR : (ac_rm mc' ms' d).frames + 1 ≤ room_1.frames ∧ 8 + (M'.2.2.1 + 11) + (ac_rm mc' ms' d).locals ≤ room_1.locals := ⟨by show d + 1 ≤ 2048; omega, by show 8 + (M'.2.2.1 + 11) + 128 * d ≤ 84000; omega⟩
  have hws : ab_ws M' = Cond.code M'.1 M'.2.1 M'.2.2.1 none :: ab_T := by unfold ab_ws; rw [gr]
  have hrun := va_runI (l := l) (e := e) (below := below) (meth := meth) (locs := locs) (cells := k) (slots := n) (R := room_1) (Ts := ab_T) (As := []) (rest := rest) (g := F0 m pc lsA (.ref a :: rest)) ⟨hx, hb, hml, hown, hts⟩ hM ⟨callB_of 0 hts (ab_goodw g1) hws rfl rfl (hts _ g2) (hts _ hl) ⟨g4, g5, g6⟩ hR, gi, hts _ f3⟩ hpre rfl rfl hsz rfl (lv_room hw) hd ⟨h1, h2⟩
  intro T hT X
  obtain ⟨v, st₀, t, T', L9, h0, X', hL9, e1, e2, ⟨⟨hv, zs', hQ, hP', hD'⟩, hz, hk⟩, stp⟩ := hrun T hT X
  cases hv
  rw [h0] at hz hk
  have hS' : va_S (k_A s) s.heap T'.heap (locs ++ L9) := ⟨Nat.le_trans hS.1 (by rw [e1]; exact hz), fun q h1 h2 => by rw [e1, hk q (Nat.lt_of_lt_of_le h1 hS.1) h2]; exact hS.2.1 q h1 h2, fun q hq => by
    rcases List.mem_append.mp hq with h | h
    · exact hS.2.2 q h
    · exact hL9 q h⟩
  obtain ⟨t2, a1, b1⟩ := kk zs' T'.heap (locs ++ L9) hQ (by rw [e1]; exact hP') hD' hS' T' rfl X'
  exact ⟨t2, stp t2 a1, b1⟩
end STA
def kQ11 (cy : Nat → ClassId) (a : Nat) (z : va_W) : Prop := ∃ p1 p2 p3 p4 p5 p6 p7 p8 p9 p10 p11 p12 p13 p14 p15 p16 p17 p18 p19 p20 p21 p22 p23 p24 p25 p26 p27 p28 p29 p30 p31 p32 p33 p34 p35 p36 p37 p38 p39 p40 p41 p42 : Nat, ∃ rr : Nat → Nat × Nat × Nat × Nat, ∃ ss : Nat → Nat × Nat × Nat, ∃ tt : Nat → Nat, z = kwC cy a p1 p2 p3 p4 p5 p6 p7 p8 p9 p10 p11 p12 p13 p14 p15 p16 p17 p18 p19 rr p20 p21 p22 p23 p24 p25 p26 p27 p28 p29 p30 ss p31 p32 p33 p34 p35 p36 p37 p38 p39 tt p40 p41 p42
def kQ12 (cy : Nat → ClassId) (ad : Nat → Nat) (a2 : Nat) (z : va_W) : Prop := ∃ m1 m2 m3 m4 m5 m6 m7 m8 m9 m10 m11 m12 m13 m14 m15 m16 m17 m18 m19 m20 m21 m22 m23 m24 m25 m26 m27 : Nat, z = kwM cy ad a2 m1 m2 m3 m4 m5 m6 m7 m8 m9 m10 m11 m12 m13 m14 m15 m16 m17 m18 m19 m20 m21 m22 m23 m24 m25 m26 m27
theorem kS11 {l : Launch} {D : va_G} {cy : Nat → ClassId} {ad : Nat → Nat} {A : Nat → Prop} {w0 : va_W} {a : Nat} : ac_S l D cy ad A 199 4669 (0 + 3) mX11_init 0 (lv_args 0 [.ref a]) [] w0 [(a, .inr (11, [.null, .null, .null, .null, .null, .int 0, .int 0, .null, .null, .null, .int 0, .null, .null, .null, .null, .null, .null, .long 0]))] 0 0 (kQ11 cy a) := k_X11 (fun p1 p2 p3 p4 p5 p6 p7 p8 p9 p10 p11 p12 p13 p14 p15 p16 p17 p18 p19 rr p20 p21 p22 p23 p24 p25 p26 p27 p28 p29 p30 ss p31 p32 p33 p34 p35 p36 p37 p38 p39 tt p40 p41 p42 => ⟨p1, p2, p3, p4, p5, p6, p7, p8, p9, p10, p11, p12, p13, p14, p15, p16, p17, p18, p19, p20, p21, p22, p23, p24, p25, p26, p27, p28, p29, p30, p31, p32, p33, p34, p35, p36, p37, p38, p39, p40, p41, p42, rr, ss, tt, rfl⟩)
theorem kS12 {l : Launch} {D : va_G} {cy : Nat → ClassId} {ad : Nat → Nat} {A : Nat → Prop} {w0 : va_W} {a : Nat} : ac_S l D cy ad A 27 7429 (0 + 1) mX12_init 0 (lv_args 0 [.ref a]) [] w0 [(a, .inr (12, [.int 0, .null, .null, .null, .null, .null, .int 0, .int 0, .int 0, .int 0, .int 0, .int 0, .int 0, .int 0, .int 0, .null, .null, .int 0, .null, .null, .null, .null, .null, .null, .int 0, .int 0, .int 0, .int 0, .int 0, .null, .null, .null, .int 0, .int 0, .null, .null, .null, .int 0, .long 0, .null, .null, .null, .null, .null, .int 0, .int 0, .null, .null, .null, .int 0, .int 0, .null, .null, .null, .int 0]))] 0 0 (kQ12 cy ad a) := k_X12 (fun m1 m2 m3 m4 m5 m6 m7 m8 m9 m10 m11 m12 m13 m14 m15 m16 m17 m18 m19 m20 m21 m22 m23 m24 m25 m26 m27 => ⟨m1, m2, m3, m4, m5, m6, m7, m8, m9, m10, m11, m12, m13, m14, m15, m16, m17, m18, m19, m20, m21, m22, m23, m24, m25, m26, m27, rfl⟩)
theorem whole_start {p : Program} {e : Env} {s : State} {m : MethodId} {below : List Frame} {meth : Method} {c : Code} (l : Launch) (hst : l.stackTraces = false) {b L : Nat} {xs : Nat → Int32} (hL : L ≤ 3072) (C0 : lw_At p s m meth c b L xs) : W p l e room_1 s m #[Value.ref b] below meth c s.heap [] 0 0 (lw_Z below #[Value.ref b] s) (entryFrame m ([Value.ref b] : List Value).toArray 7) := by
  obtain ⟨hx, hb, hr, hml, hown, hts0, hX, hbl, hlk, hgv⟩ := id C0
  obtain ⟨hts, o1, o2, o3, D, cy, ad0, hK⟩ := k_entry hts0 hgv
  have hZ := k_Z hts0 hgv
  rw [lg_entry_eq]
  have hls := lv_entry ([.ref b] : List Value) (n := 7) (Nat.le_of_ble_eq_true rfl)
  generalize (lg_sl ([.ref b] : List Value) ++ List.replicate (7 - (lg_sl ([.ref b] : List Value)).length) Slot.unset).toArray = lsA at hls ⊢
  have hls : lv_has lsA 7 [(0, .ref b)] := hls
  have hP0 : va_P D vwCl [] s.heap := fun k q h => by simp at h
  have hD0 : va_D (k_A s) [] := ⟨fun i j p q h => by simp at h, fun k q h => by simp at h⟩
  refine al_new C0 hts hK hP0 hD0 va_S.rf dL_law_0 kn_L_8 (by decide) (by decide) (fun a H1 gP gD gS => ?_)
  refine lv_dup hx hb dL_law_3 rfl ?_
  refine al_init (w0 := []) (zs := [(a, .inr (11, [.null, .null, .null, .null, .null, .int 0, .int 0, .null, .null, .null, .int 0, .null, .null, .null, .null, .null, .null, .long 0]))]) C0 hts hK o1 o2 o3 gP gD gS hls.1 dL_law_4 kl_L_15 ko_X11 rfl rfl ki_X11 (Nat.le_of_ble_eq_true rfl) (Nat.le_of_ble_eq_true rfl) (by decide) (by decide) (by decide) kS11 (fun zs H2 locs2 hQ gP gD gS => ?_)
  rw [List.nil_append] at gP gD
  obtain ⟨p1, p2, p3, p4, p5, p6, p7, p8, p9, p10, p11, p12, p13, p14, p15, p16, p17, p18, p19, p20, p21, p22, p23, p24, p25, p26, p27, p28, p29, p30, p31, p32, p33, p34, p35, p36, p37, p38, p39, p40, p41, p42, rr, ss, tt, rfl⟩ := hQ
  refine lv_astore_n (lv' := [(1, .ref a), (0, .ref b)]) hx hb dL_law_7 rfl hls (by decide) rfl (fun lsB hls => ?_)
  refine al_new C0 hts hK gP gD gS dL_law_8 kn_L_16 (by decide) (by decide) (fun a2 H3 gP gD gS => ?_)
  refine lv_dup hx hb dL_law_11 rfl ?_
  refine al_init (zs := [(a2, .inr (12, [.int 0, .null, .null, .null, .null, .null, .int 0, .int 0, .int 0, .int 0, .int 0, .int 0, .int 0, .int 0, .int 0, .null, .null, .int 0, .null, .null, .null, .null, .null, .null, .int 0, .int 0, .int 0, .int 0, .int 0, .null, .null, .null, .int 0, .int 0, .null, .null, .null, .int 0, .long 0, .null, .null, .null, .null, .null, .int 0, .int 0, .null, .null, .null, .int 0, .int 0, .null, .null, .null, .int 0]))]) C0 hts hK o1 o2 o3 gP gD gS hls.1 dL_law_12 kl_L_18 ko_X12 rfl rfl ki_X12 (Nat.le_of_ble_eq_true rfl) (Nat.le_of_ble_eq_true rfl) (by decide) (by decide) (by decide) kS12 (fun ws H4 locs4 hQ gP gD gS => ?_)
  obtain ⟨m1, m2, m3, m4, m5, m6, m7, m8, m9, m10, m11, m12, m13, m14, m15, m16, m17, m18, m19, m20, m21, m22, m23, m24, m25, m26, m27, rfl⟩ := hQ
  refine lv_astore_n (lv' := [(2, .ref a2), (1, .ref a), (0, .ref b)]) hx hb dL_law_15 rfl hls (by decide) rfl (fun lsC hls => ?_)
  refine lv_iconst (v := 1) hx hb dL_law_16 (by decide) ?_
  refine va_newa (atype := .long) (ty := .long) (a0 := (1, .inr (.inl (fun _ => 0)))) hx hb (hts _ ac_wnewJ) rfl hK.1 gP gD gS (fun _ h => h) (fun _ => rfl) (by decide) (N' := 1) (by decide) (by decide) (by decide) (by decide) dL_law_17 (fun qo cA H5 gK gP gD gS => ?_)
  have e1 : cA = cy 21 := Option.some.inj ((gK.2 7 (cA, .long) rfl).2.symm.trans (hK.1.2 1 (cy 21, .long) rfl).2)
  subst e1
  refine lv_astore_n (lv' := [(3, .ref qo), (2, .ref a2), (1, .ref a), (0, .ref b)]) hx hb dL_law_19 rfl hls (by decide) rfl (fun lsD hls => ?_)
  refine lv_iconst (v := 0) hx hb dL_law_20 (by decide) ?_
  refine lv_istore (lv' := [(4, .int 0), (3, .ref qo), (2, .ref a2), (1, .ref a), (0, .ref b)]) hx hb dL_law_21 hls (by decide) rfl (fun lsE hls => ?_)
  have hO0 := gP (_ + 0) (qo, .inl (cy 21, 1, .inr (.inl (fun _ => 0)))) (ac_get rfl)
  have hO : H5[qo]? = some (vp_cell (cy 21) (1, .inr (.inl (fun _ => 0)))) := hO0
  have hqo : s.heap.size ≤ qo := gD.2 (_ + 0) (qo, .inl (cy 21, 1, .inr (.inl (fun _ => 0)))) (ac_get rfl)
  obtain ⟨ad, d1, d2, hP, hD, hK2⟩ := k_world gP gD hK
  subst d1
  subst d2
  exact law_loop (C := ⟨C0, hts, hK2, hqo, hL⟩) ⟨hZ.1.narrow (fun q h => h.1), hZ.2.1.narrow (fun q h => h.1), hZ.2.2⟩ hst (L + 1) 0 _ _ kh0 (fun _ => 0) (Nat.zero_le _) (by omega) (by decide) (by decide) INV_first H5 locs4 lsE hP hD gS hO (lv_sub hls [4, 3, 2, 1, 0] rfl)
