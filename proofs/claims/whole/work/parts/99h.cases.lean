/-! THE LAW'S CASES, yard aside (by program: c99g.py) -/
theorem S_feed (x1 x2 x3 x4 x5 : Int32) : SIM mX11_feed mX12_feed [.int x1, .int x2, .int x3, .int x4, .int x5] := by simpa only [iI_of] using s_feed (inR_of x1) (inR_of x2) (inR_of x3) (inR_of x4) (inR_of x5)
theorem S_end (x1 : Int32) : SIM mX11_end mX12_end [.int x1] := by simpa only [iI_of] using s_end (inR_of x1)
theorem S_fault (x1 : Int32) : SIM mX11_fault mX12_fault [.int x1] := by simpa only [iI_of] using s_fault (inR_of x1)
theorem S_text (x1 : Int32) : SIM mX11_text mX12_text [.int x1] := by simpa only [iI_of] using s_text (inR_of x1)
theorem S_sort (x1 x2 : Int32) : SIM mX11_sort mX12_sort [.int x1, .int x2] := by simpa only [iI_of] using s_sort (inR_of x1) (inR_of x2)
theorem S_rule (x1 : Int32) : SIM mX11_rule mX12_rule [.int x1] := by simpa only [iI_of] using s_rule (inR_of x1)
theorem S_obey (x1 : Int32) : SIM mX11_obey mX12_obey [.int x1] := by simpa only [iI_of] using s_obey (inR_of x1)
theorem S_fits (x1 x2 : Int32) : SIM mX11_fits mX12_fits [.int x1, .int x2] := by simpa only [iI_of] using s_fits (inR_of x1) (inR_of x2)
theorem S_where (x1 x2 : Int32) : SIM mX11_where mX12_where [.int x1, .int x2] := by simpa only [iI_of] using s_where (inR_of x1) (inR_of x2)
theorem S_park (x1 x2 : Int32) : SIM mX11_park mX12_park [.int x1, .int x2] := by simpa only [iI_of] using s_park (inR_of x1) (inR_of x2)
theorem S_stop (x1 x2 : Int32) : SIM mX11_stop mX12_stop [.int x1, .int x2] := by simpa only [iI_of] using s_stop (inR_of x1) (inR_of x2)
theorem S_leave (x1 : Int32) : SIM mX11_leave mX12_leave [.int x1] := by simpa only [iI_of] using s_leave (inR_of x1)
theorem S_undo : SIM mX11_undo mX12_undo [] := s_undo
theorem S_likely (x1 x2 : Int32) : SIM mX11_likely mX12_likely [.int x1, .int x2] := by simpa only [iI_of] using s_likely (inR_of x1) (inR_of x2)
theorem S_ends (x1 x2 : Int32) : SIM mX11_ends mX12_ends [.int x1, .int x2] := by simpa only [iI_of] using s_ends (inR_of x1) (inR_of x2)
theorem S_bays (x1 x2 : Int32) : SIM mX11_bays mX12_bays [.int x1, .int x2] := by simpa only [iI_of] using s_bays (inR_of x1) (inR_of x2)
theorem S_hearse (x1 x2 : Int32) : SIM mX11_hearse mX12_hearse [.int x1, .int x2] := by simpa only [iI_of] using s_hearse (inR_of x1) (inR_of x2)
theorem S_gate (x1 x2 : Int32) : SIM mX11_gate mX12_gate [.int x1, .int x2] := by simpa only [iI_of] using s_gate (inR_of x1) (inR_of x2)
theorem S_came : SIM mX11_came mX12_came [] := s_came
theorem S_last : SIM mX11_last mX12_last [] := s_last
theorem S_seek (x1 x2 x3 x4 x5 : Int32) : SIM mX11_seek mX12_seek [.int x1, .int x2, .int x3, .int x4, .int x5] := by simpa only [iI_of] using s_seek (inR_of x1) (inR_of x2) (inR_of x3) (inR_of x4) (inR_of x5)
theorem S_take (x1 x2 x3 x4 x5 : Int32) : SIM mX11_take mX12_take [.int x1, .int x2, .int x3, .int x4, .int x5] := by simpa only [iI_of] using s_take (inR_of x1) (inR_of x2) (inR_of x3) (inR_of x4) (inR_of x5)
theorem S_gaps (x1 : Int32) : SIM mX11_gaps mX12_gaps [.int x1] := by simpa only [iI_of] using s_gaps (inR_of x1)
theorem S_image : SIM mX11_image mX12_image [] := s_image
theorem S_back : SIM mX11_back mX12_back [] := s_back
theorem S_count (x1 : Int32) : SIM mX11_count mX12_count [.int x1] := by simpa only [iI_of] using s_count (inR_of x1)
theorem S_mean0 (x1 : Int32) : SIM mX11_mean mX12_mean [.int x1, .int 0] := by
  have q := s_mean0 (inR_of x1)
  rw [iI_of] at q
  exact q
theorem S_mean1 (x1 : Int32) : SIM mX11_mean mX12_mean [.int x1, .int 1] := by
  have q := s_mean1 (inR_of x1)
  rw [iI_of] at q
  exact q
theorem S_run (x1 : Int32) (x2 : Int64) : SIM mX11_run mX12_run [.int x1, .long x2] := by
  have q := s_run (inR_of x1) (inL_of x2)
  rw [iI_of, lL_of] at q
  exact q
section LAW3
variable {p : Program} {l : Launch} {e : Env} {s : State} {m : MethodId} {below : List Frame} {meth : Method} {c : Code} {b L : Nat} {xs : Nat → Int32} {D : va_G} {cy : Nat → ClassId} {ad : Nat → Nat} {qo k n : Nat}
variable {pc : Nat} {ls : ab_L} {st : List Value} {h : ab_H} {o : Nat → Int64}
theorem lc_feed {i : Nat} (C : al_C p s m meth c b L xs D cy ad qo) (hi : i + 6 ≤ L) (hk : k ≤ 601024) (hn : n ≤ 7293034) (I : INV h) (K : ∀ h', INV h' → al_S p l e s m below meth c b D cy ad qo k n 1220 (al_ls b ad qo i) [] h' o) : al_S p l e s m below meth c b D cy ad qo k n 172 (al_ls b ad qo i) [] h o := by
  refine al_aload_n (q := 1) C dL_law_172 rfl rfl ?_
  refine al_arg (z := 0) (q0 := 0) (q4 := 4) (j := 1) C rfl rfl rfl (by omega) dL_law_173 dL_law_174 dL_law_176 dL_law_177 dL_law_178 ?_
  refine al_arg (z := 0) (q0 := 0) (q4 := 4) (j := 2) C rfl rfl rfl (by omega) dL_law_179 dL_law_180 dL_law_182 dL_law_183 dL_law_184 ?_
  refine al_arg (z := 0) (q0 := 0) (q4 := 4) (j := 3) C rfl rfl rfl (by omega) dL_law_185 dL_law_186 dL_law_188 dL_law_189 dL_law_190 ?_
  refine al_arg (z := 0) (q0 := 0) (q4 := 4) (j := 4) C rfl rfl rfl (by omega) dL_law_191 dL_law_192 dL_law_194 dL_law_195 dL_law_196 ?_
  refine al_arg (z := 0) (q0 := 0) (q4 := 4) (j := 5) C rfl rfl rfl (by omega) dL_law_197 dL_law_198 dL_law_200 dL_law_201 dL_law_202 ?_
  refine al_call (a := 0) (As := [.int (xs (i + 1)), .int (xs (i + 2)), .int (xs (i + 3)), .int (xs (i + 4)), .int (xs (i + 5))]) (rest := []) C dL_law_203 lL_19 rfl rfl (Nat.le_of_ble_eq_true rfl) (Nat.le_of_ble_eq_true rfl) hk hn rfl (ab_retI (Or.inl rfl) (S_feed _ _ _ _ _ _ I)) (fun r1 h1 q1 => ?_)
  obtain ⟨q1, v, rfl⟩ := q1
  refine al_aload_n (q := 2) C dL_law_206 rfl rfl ?_
  refine al_arg (z := 0) (q0 := 0) (q4 := 4) (j := 1) C rfl rfl rfl (by omega) dL_law_207 dL_law_208 dL_law_210 dL_law_211 dL_law_212 ?_
  refine al_arg (z := 0) (q0 := 0) (q4 := 4) (j := 2) C rfl rfl rfl (by omega) dL_law_213 dL_law_214 dL_law_216 dL_law_217 dL_law_218 ?_
  refine al_arg (z := 0) (q0 := 0) (q4 := 4) (j := 3) C rfl rfl rfl (by omega) dL_law_219 dL_law_220 dL_law_222 dL_law_223 dL_law_224 ?_
  refine al_arg (z := 0) (q0 := 0) (q4 := 4) (j := 4) C rfl rfl rfl (by omega) dL_law_225 dL_law_226 dL_law_228 dL_law_229 dL_law_230 ?_
  refine al_arg (z := 0) (q0 := 0) (q4 := 4) (j := 5) C rfl rfl rfl (by omega) dL_law_231 dL_law_232 dL_law_234 dL_law_235 dL_law_236 ?_
  refine al_call (a := 200) (As := [.int (xs (i + 1)), .int (xs (i + 2)), .int (xs (i + 3)), .int (xs (i + 4)), .int (xs (i + 5))]) (rest := [.int v]) C dL_law_237 lL_23 rfl rfl (Nat.le_of_ble_eq_true rfl) (Nat.le_of_ble_eq_true rfl) hk hn rfl q1 (fun r2 h2 q2 => ?_)
  obtain ⟨rfl, I2⟩ := q2
  exact al_icmp_eq (tgt := 1220) C dL_law_240 (by decide) (fun _ => K _ I2) (fun z => absurd rfl z)
theorem lc_end {i : Nat} (C : al_C p s m meth c b L xs D cy ad qo) (hi : i + 6 ≤ L) (hk : k ≤ 601024) (hn : n ≤ 7293034) (I : INV h) (K : ∀ h', INV h' → al_S p l e s m below meth c b D cy ad qo k n 1220 (al_ls b ad qo i) [] h' o) : al_S p l e s m below meth c b D cy ad qo k n 245 (al_ls b ad qo i) [] h o := by
  refine al_aload_n (q := 1) C dL_law_245 rfl rfl ?_
  refine al_arg (z := 0) (q0 := 0) (q4 := 4) (j := 1) C rfl rfl rfl (by omega) dL_law_246 dL_law_247 dL_law_249 dL_law_250 dL_law_251 ?_
  refine al_call (a := 0) (As := [.int (xs (i + 1))]) (rest := []) C dL_law_252 lL_24 rfl rfl (Nat.le_of_ble_eq_true rfl) (Nat.le_of_ble_eq_true rfl) hk hn rfl (ab_retI (Or.inr rfl) (S_end _ _ I)) (fun r1 h1 q1 => ?_)
  obtain ⟨q1, v, rfl⟩ := q1
  refine al_aload_n (q := 2) C dL_law_255 rfl rfl ?_
  refine al_arg (z := 0) (q0 := 0) (q4 := 4) (j := 1) C rfl rfl rfl (by omega) dL_law_256 dL_law_257 dL_law_259 dL_law_260 dL_law_261 ?_
  refine al_call (a := 200) (As := [.int (xs (i + 1))]) (rest := [.int v]) C dL_law_262 lL_28 rfl rfl (Nat.le_of_ble_eq_true rfl) (Nat.le_of_ble_eq_true rfl) hk hn rfl q1 (fun r2 h2 q2 => ?_)
  obtain ⟨rfl, I2⟩ := q2
  exact al_icmp_eq (tgt := 1220) C dL_law_265 (by decide) (fun _ => K _ I2) (fun z => absurd rfl z)
theorem lc_fault {i : Nat} (C : al_C p s m meth c b L xs D cy ad qo) (hi : i + 6 ≤ L) (hk : k ≤ 601024) (hn : n ≤ 7293034) (I : INV h) (K : ∀ h', INV h' → al_S p l e s m below meth c b D cy ad qo k n 1220 (al_ls b ad qo i) [] h' o) : al_S p l e s m below meth c b D cy ad qo k n 270 (al_ls b ad qo i) [] h o := by
  refine al_aload_n (q := 1) C dL_law_270 rfl rfl ?_
  refine al_arg (z := 0) (q0 := 0) (q4 := 4) (j := 1) C rfl rfl rfl (by omega) dL_law_271 dL_law_272 dL_law_274 dL_law_275 dL_law_276 ?_
  refine al_call (a := 0) (As := [.int (xs (i + 1))]) (rest := []) C dL_law_277 lL_29 rfl rfl (Nat.le_of_ble_eq_true rfl) (Nat.le_of_ble_eq_true rfl) hk hn rfl (ab_retI (Or.inl rfl) (S_fault _ _ I)) (fun r1 h1 q1 => ?_)
  obtain ⟨q1, v, rfl⟩ := q1
  refine al_aload_n (q := 2) C dL_law_280 rfl rfl ?_
  refine al_arg (z := 0) (q0 := 0) (q4 := 4) (j := 1) C rfl rfl rfl (by omega) dL_law_281 dL_law_282 dL_law_284 dL_law_285 dL_law_286 ?_
  refine al_call (a := 200) (As := [.int (xs (i + 1))]) (rest := [.int v]) C dL_law_287 lL_33 rfl rfl (Nat.le_of_ble_eq_true rfl) (Nat.le_of_ble_eq_true rfl) hk hn rfl q1 (fun r2 h2 q2 => ?_)
  obtain ⟨rfl, I2⟩ := q2
  exact al_icmp_eq (tgt := 1220) C dL_law_290 (by decide) (fun _ => K _ I2) (fun z => absurd rfl z)
theorem lc_text {i : Nat} (C : al_C p s m meth c b L xs D cy ad qo) (hi : i + 6 ≤ L) (hk : k ≤ 601024) (hn : n ≤ 7293034) (I : INV h) (K : ∀ h', INV h' → al_S p l e s m below meth c b D cy ad qo k n 1220 (al_ls b ad qo i) [] h' o) : al_S p l e s m below meth c b D cy ad qo k n 295 (al_ls b ad qo i) [] h o := by
  refine al_aload_n (q := 1) C dL_law_295 rfl rfl ?_
  refine al_arg (z := 0) (q0 := 0) (q4 := 4) (j := 1) C rfl rfl rfl (by omega) dL_law_296 dL_law_297 dL_law_299 dL_law_300 dL_law_301 ?_
  refine al_call (a := 0) (As := [.int (xs (i + 1))]) (rest := []) C dL_law_302 lL_34 rfl rfl (Nat.le_of_ble_eq_true rfl) (Nat.le_of_ble_eq_true rfl) hk hn rfl (ab_retI (Or.inl rfl) (S_text _ _ I)) (fun r1 h1 q1 => ?_)
  obtain ⟨q1, v, rfl⟩ := q1
  refine al_aload_n (q := 2) C dL_law_305 rfl rfl ?_
  refine al_arg (z := 0) (q0 := 0) (q4 := 4) (j := 1) C rfl rfl rfl (by omega) dL_law_306 dL_law_307 dL_law_309 dL_law_310 dL_law_311 ?_
  refine al_call (a := 200) (As := [.int (xs (i + 1))]) (rest := [.int v]) C dL_law_312 lL_37 rfl rfl (Nat.le_of_ble_eq_true rfl) (Nat.le_of_ble_eq_true rfl) hk hn rfl q1 (fun r2 h2 q2 => ?_)
  obtain ⟨rfl, I2⟩ := q2
  exact al_icmp_eq (tgt := 1220) C dL_law_315 (by decide) (fun _ => K _ I2) (fun z => absurd rfl z)
theorem lc_sort {i : Nat} (C : al_C p s m meth c b L xs D cy ad qo) (hi : i + 6 ≤ L) (hk : k ≤ 601024) (hn : n ≤ 7293034) (I : INV h) (K : ∀ h', INV h' → al_S p l e s m below meth c b D cy ad qo k n 1220 (al_ls b ad qo i) [] h' o) : al_S p l e s m below meth c b D cy ad qo k n 388 (al_ls b ad qo i) [] h o := by
  refine al_aload_n (q := 1) C dL_law_388 rfl rfl ?_
  refine al_arg (z := 0) (q0 := 0) (q4 := 4) (j := 1) C rfl rfl rfl (by omega) dL_law_389 dL_law_390 dL_law_392 dL_law_393 dL_law_394 ?_
  refine al_arg (z := 0) (q0 := 0) (q4 := 4) (j := 2) C rfl rfl rfl (by omega) dL_law_395 dL_law_396 dL_law_398 dL_law_399 dL_law_400 ?_
  refine al_call (a := 0) (As := [.int (xs (i + 1)), .int (xs (i + 2))]) (rest := []) C dL_law_401 lL_48 rfl rfl (Nat.le_of_ble_eq_true rfl) (Nat.le_of_ble_eq_true rfl) hk hn rfl (ab_retI (Or.inl rfl) (S_sort _ _ _ I)) (fun r1 h1 q1 => ?_)
  obtain ⟨q1, v, rfl⟩ := q1
  refine al_aload_n (q := 2) C dL_law_404 rfl rfl ?_
  refine al_arg (z := 0) (q0 := 0) (q4 := 4) (j := 1) C rfl rfl rfl (by omega) dL_law_405 dL_law_406 dL_law_408 dL_law_409 dL_law_410 ?_
  refine al_arg (z := 0) (q0 := 0) (q4 := 4) (j := 2) C rfl rfl rfl (by omega) dL_law_411 dL_law_412 dL_law_414 dL_law_415 dL_law_416 ?_
  refine al_call (a := 200) (As := [.int (xs (i + 1)), .int (xs (i + 2))]) (rest := [.int v]) C dL_law_417 lL_51 rfl rfl (Nat.le_of_ble_eq_true rfl) (Nat.le_of_ble_eq_true rfl) hk hn rfl q1 (fun r2 h2 q2 => ?_)
  obtain ⟨rfl, I2⟩ := q2
  exact al_icmp_eq (tgt := 1220) C dL_law_420 (by decide) (fun _ => K _ I2) (fun z => absurd rfl z)
theorem lc_rule {i : Nat} (C : al_C p s m meth c b L xs D cy ad qo) (hi : i + 6 ≤ L) (hk : k ≤ 601024) (hn : n ≤ 7293034) (I : INV h) (K : ∀ h', INV h' → al_S p l e s m below meth c b D cy ad qo k n 1220 (al_ls b ad qo i) [] h' o) : al_S p l e s m below meth c b D cy ad qo k n 425 (al_ls b ad qo i) [] h o := by
  refine al_aload_n (q := 1) C dL_law_425 rfl rfl ?_
  refine al_arg (z := 0) (q0 := 0) (q4 := 4) (j := 1) C rfl rfl rfl (by omega) dL_law_426 dL_law_427 dL_law_429 dL_law_430 dL_law_431 ?_
  refine al_call (a := 0) (As := [.int (xs (i + 1))]) (rest := []) C dL_law_432 lL_52 rfl rfl (Nat.le_of_ble_eq_true rfl) (Nat.le_of_ble_eq_true rfl) hk hn rfl (ab_retI (Or.inr rfl) (S_rule _ _ I)) (fun r1 h1 q1 => ?_)
  obtain ⟨q1, v, rfl⟩ := q1
  refine al_aload_n (q := 2) C dL_law_435 rfl rfl ?_
  refine al_arg (z := 0) (q0 := 0) (q4 := 4) (j := 1) C rfl rfl rfl (by omega) dL_law_436 dL_law_437 dL_law_439 dL_law_440 dL_law_441 ?_
  refine al_call (a := 200) (As := [.int (xs (i + 1))]) (rest := [.int v]) C dL_law_442 lL_55 rfl rfl (Nat.le_of_ble_eq_true rfl) (Nat.le_of_ble_eq_true rfl) hk hn rfl q1 (fun r2 h2 q2 => ?_)
  obtain ⟨rfl, I2⟩ := q2
  exact al_icmp_eq (tgt := 1220) C dL_law_445 (by decide) (fun _ => K _ I2) (fun z => absurd rfl z)
theorem lc_obey {i : Nat} (C : al_C p s m meth c b L xs D cy ad qo) (hi : i + 6 ≤ L) (hk : k ≤ 601024) (hn : n ≤ 7293034) (I : INV h) (K : ∀ h', INV h' → al_S p l e s m below meth c b D cy ad qo k n 1220 (al_ls b ad qo i) [] h' o) : al_S p l e s m below meth c b D cy ad qo k n 450 (al_ls b ad qo i) [] h o := by
  refine al_aload_n (q := 1) C dL_law_450 rfl rfl ?_
  refine al_arg (z := 0) (q0 := 0) (q4 := 4) (j := 1) C rfl rfl rfl (by omega) dL_law_451 dL_law_452 dL_law_454 dL_law_455 dL_law_456 ?_
  refine al_call (a := 0) (As := [.int (xs (i + 1))]) (rest := []) C dL_law_457 lL_56 rfl rfl (Nat.le_of_ble_eq_true rfl) (Nat.le_of_ble_eq_true rfl) hk hn rfl (ab_retI (Or.inr rfl) (S_obey _ _ I)) (fun r1 h1 q1 => ?_)
  obtain ⟨q1, v, rfl⟩ := q1
  refine al_aload_n (q := 2) C dL_law_460 rfl rfl ?_
  refine al_arg (z := 0) (q0 := 0) (q4 := 4) (j := 1) C rfl rfl rfl (by omega) dL_law_461 dL_law_462 dL_law_464 dL_law_465 dL_law_466 ?_
  refine al_call (a := 200) (As := [.int (xs (i + 1))]) (rest := [.int v]) C dL_law_467 lL_59 rfl rfl (Nat.le_of_ble_eq_true rfl) (Nat.le_of_ble_eq_true rfl) hk hn rfl q1 (fun r2 h2 q2 => ?_)
  obtain ⟨rfl, I2⟩ := q2
  exact al_icmp_eq (tgt := 1220) C dL_law_470 (by decide) (fun _ => K _ I2) (fun z => absurd rfl z)
theorem lc_fits {i : Nat} (C : al_C p s m meth c b L xs D cy ad qo) (hi : i + 6 ≤ L) (hk : k ≤ 601024) (hn : n ≤ 7293034) (I : INV h) (K : ∀ h', INV h' → al_S p l e s m below meth c b D cy ad qo k n 1220 (al_ls b ad qo i) [] h' o) : al_S p l e s m below meth c b D cy ad qo k n 475 (al_ls b ad qo i) [] h o := by
  refine al_aload_n (q := 1) C dL_law_475 rfl rfl ?_
  refine al_arg (z := 0) (q0 := 0) (q4 := 4) (j := 1) C rfl rfl rfl (by omega) dL_law_476 dL_law_477 dL_law_479 dL_law_480 dL_law_481 ?_
  refine al_arg (z := 0) (q0 := 0) (q4 := 4) (j := 2) C rfl rfl rfl (by omega) dL_law_482 dL_law_483 dL_law_485 dL_law_486 dL_law_487 ?_
  refine al_call (a := 0) (As := [.int (xs (i + 1)), .int (xs (i + 2))]) (rest := []) C dL_law_488 lL_60 rfl rfl (Nat.le_of_ble_eq_true rfl) (Nat.le_of_ble_eq_true rfl) hk hn rfl (ab_retI (Or.inl rfl) (S_fits _ _ _ I)) (fun r1 h1 q1 => ?_)
  obtain ⟨q1, v, rfl⟩ := q1
  refine al_aload_n (q := 2) C dL_law_491 rfl rfl ?_
  refine al_arg (z := 0) (q0 := 0) (q4 := 4) (j := 1) C rfl rfl rfl (by omega) dL_law_492 dL_law_493 dL_law_495 dL_law_496 dL_law_497 ?_
  refine al_arg (z := 0) (q0 := 0) (q4 := 4) (j := 2) C rfl rfl rfl (by omega) dL_law_498 dL_law_499 dL_law_501 dL_law_502 dL_law_503 ?_
  refine al_call (a := 200) (As := [.int (xs (i + 1)), .int (xs (i + 2))]) (rest := [.int v]) C dL_law_504 lL_63 rfl rfl (Nat.le_of_ble_eq_true rfl) (Nat.le_of_ble_eq_true rfl) hk hn rfl q1 (fun r2 h2 q2 => ?_)
  obtain ⟨rfl, I2⟩ := q2
  exact al_icmp_eq (tgt := 1220) C dL_law_507 (by decide) (fun _ => K _ I2) (fun z => absurd rfl z)
theorem lc_where {i : Nat} (C : al_C p s m meth c b L xs D cy ad qo) (hi : i + 6 ≤ L) (hk : k ≤ 601024) (hn : n ≤ 7293034) (I : INV h) (K : ∀ h', INV h' → al_S p l e s m below meth c b D cy ad qo k n 1220 (al_ls b ad qo i) [] h' o) : al_S p l e s m below meth c b D cy ad qo k n 512 (al_ls b ad qo i) [] h o := by
  refine al_aload_n (q := 1) C dL_law_512 rfl rfl ?_
  refine al_arg (z := 0) (q0 := 0) (q4 := 4) (j := 1) C rfl rfl rfl (by omega) dL_law_513 dL_law_514 dL_law_516 dL_law_517 dL_law_518 ?_
  refine al_arg (z := 0) (q0 := 0) (q4 := 4) (j := 2) C rfl rfl rfl (by omega) dL_law_519 dL_law_520 dL_law_522 dL_law_523 dL_law_524 ?_
  refine al_call (a := 0) (As := [.int (xs (i + 1)), .int (xs (i + 2))]) (rest := []) C dL_law_525 lL_64 rfl rfl (Nat.le_of_ble_eq_true rfl) (Nat.le_of_ble_eq_true rfl) hk hn rfl (ab_retI (Or.inl rfl) (S_where _ _ _ I)) (fun r1 h1 q1 => ?_)
  obtain ⟨q1, v, rfl⟩ := q1
  refine al_aload_n (q := 2) C dL_law_528 rfl rfl ?_
  refine al_arg (z := 0) (q0 := 0) (q4 := 4) (j := 1) C rfl rfl rfl (by omega) dL_law_529 dL_law_530 dL_law_532 dL_law_533 dL_law_534 ?_
  refine al_arg (z := 0) (q0 := 0) (q4 := 4) (j := 2) C rfl rfl rfl (by omega) dL_law_535 dL_law_536 dL_law_538 dL_law_539 dL_law_540 ?_
  refine al_call (a := 200) (As := [.int (xs (i + 1)), .int (xs (i + 2))]) (rest := [.int v]) C dL_law_541 lL_67 rfl rfl (Nat.le_of_ble_eq_true rfl) (Nat.le_of_ble_eq_true rfl) hk hn rfl q1 (fun r2 h2 q2 => ?_)
  obtain ⟨rfl, I2⟩ := q2
  exact al_icmp_eq (tgt := 1220) C dL_law_544 (by decide) (fun _ => K _ I2) (fun z => absurd rfl z)
theorem lc_park {i : Nat} (C : al_C p s m meth c b L xs D cy ad qo) (hi : i + 6 ≤ L) (hk : k ≤ 601024) (hn : n ≤ 7293034) (I : INV h) (K : ∀ h', INV h' → al_S p l e s m below meth c b D cy ad qo k n 1220 (al_ls b ad qo i) [] h' o) : al_S p l e s m below meth c b D cy ad qo k n 549 (al_ls b ad qo i) [] h o := by
  refine al_aload_n (q := 1) C dL_law_549 rfl rfl ?_
  refine al_arg (z := 0) (q0 := 0) (q4 := 4) (j := 1) C rfl rfl rfl (by omega) dL_law_550 dL_law_551 dL_law_553 dL_law_554 dL_law_555 ?_
  refine al_arg (z := 0) (q0 := 0) (q4 := 4) (j := 2) C rfl rfl rfl (by omega) dL_law_556 dL_law_557 dL_law_559 dL_law_560 dL_law_561 ?_
  refine al_call (a := 0) (As := [.int (xs (i + 1)), .int (xs (i + 2))]) (rest := []) C dL_law_562 lL_68 rfl rfl (Nat.le_of_ble_eq_true rfl) (Nat.le_of_ble_eq_true rfl) hk hn rfl (ab_retI (Or.inl rfl) (S_park _ _ _ I)) (fun r1 h1 q1 => ?_)
  obtain ⟨q1, v, rfl⟩ := q1
  refine al_aload_n (q := 2) C dL_law_565 rfl rfl ?_
  refine al_arg (z := 0) (q0 := 0) (q4 := 4) (j := 1) C rfl rfl rfl (by omega) dL_law_566 dL_law_567 dL_law_569 dL_law_570 dL_law_571 ?_
  refine al_arg (z := 0) (q0 := 0) (q4 := 4) (j := 2) C rfl rfl rfl (by omega) dL_law_572 dL_law_573 dL_law_575 dL_law_576 dL_law_577 ?_
  refine al_call (a := 200) (As := [.int (xs (i + 1)), .int (xs (i + 2))]) (rest := [.int v]) C dL_law_578 lL_71 rfl rfl (Nat.le_of_ble_eq_true rfl) (Nat.le_of_ble_eq_true rfl) hk hn rfl q1 (fun r2 h2 q2 => ?_)
  obtain ⟨rfl, I2⟩ := q2
  exact al_icmp_eq (tgt := 1220) C dL_law_581 (by decide) (fun _ => K _ I2) (fun z => absurd rfl z)
theorem lc_stop {i : Nat} (C : al_C p s m meth c b L xs D cy ad qo) (hi : i + 6 ≤ L) (hk : k ≤ 601024) (hn : n ≤ 7293034) (I : INV h) (K : ∀ h', INV h' → al_S p l e s m below meth c b D cy ad qo k n 1220 (al_ls b ad qo i) [] h' o) : al_S p l e s m below meth c b D cy ad qo k n 586 (al_ls b ad qo i) [] h o := by
  refine al_aload_n (q := 1) C dL_law_586 rfl rfl ?_
  refine al_arg (z := 0) (q0 := 0) (q4 := 4) (j := 1) C rfl rfl rfl (by omega) dL_law_587 dL_law_588 dL_law_590 dL_law_591 dL_law_592 ?_
  refine al_arg (z := 0) (q0 := 0) (q4 := 4) (j := 2) C rfl rfl rfl (by omega) dL_law_593 dL_law_594 dL_law_596 dL_law_597 dL_law_598 ?_
  refine al_call (a := 0) (As := [.int (xs (i + 1)), .int (xs (i + 2))]) (rest := []) C dL_law_599 lL_72 rfl rfl (Nat.le_of_ble_eq_true rfl) (Nat.le_of_ble_eq_true rfl) hk hn rfl (ab_retI (Or.inr rfl) (S_stop _ _ _ I)) (fun r1 h1 q1 => ?_)
  obtain ⟨q1, v, rfl⟩ := q1
  refine al_aload_n (q := 2) C dL_law_602 rfl rfl ?_
  refine al_arg (z := 0) (q0 := 0) (q4 := 4) (j := 1) C rfl rfl rfl (by omega) dL_law_603 dL_law_604 dL_law_606 dL_law_607 dL_law_608 ?_
  refine al_arg (z := 0) (q0 := 0) (q4 := 4) (j := 2) C rfl rfl rfl (by omega) dL_law_609 dL_law_610 dL_law_612 dL_law_613 dL_law_614 ?_
  refine al_call (a := 200) (As := [.int (xs (i + 1)), .int (xs (i + 2))]) (rest := [.int v]) C dL_law_615 lL_76 rfl rfl (Nat.le_of_ble_eq_true rfl) (Nat.le_of_ble_eq_true rfl) hk hn rfl q1 (fun r2 h2 q2 => ?_)
  obtain ⟨rfl, I2⟩ := q2
  exact al_icmp_eq (tgt := 1220) C dL_law_618 (by decide) (fun _ => K _ I2) (fun z => absurd rfl z)
theorem lc_leave {i : Nat} (C : al_C p s m meth c b L xs D cy ad qo) (hi : i + 6 ≤ L) (hk : k ≤ 601024) (hn : n ≤ 7293034) (I : INV h) (K : ∀ h', INV h' → al_S p l e s m below meth c b D cy ad qo k n 1220 (al_ls b ad qo i) [] h' o) : al_S p l e s m below meth c b D cy ad qo k n 623 (al_ls b ad qo i) [] h o := by
  refine al_aload_n (q := 1) C dL_law_623 rfl rfl ?_
  refine al_arg (z := 0) (q0 := 0) (q4 := 4) (j := 1) C rfl rfl rfl (by omega) dL_law_624 dL_law_625 dL_law_627 dL_law_628 dL_law_629 ?_
  refine al_call (a := 0) (As := [.int (xs (i + 1))]) (rest := []) C dL_law_630 lL_77 rfl rfl (Nat.le_of_ble_eq_true rfl) (Nat.le_of_ble_eq_true rfl) hk hn rfl (ab_retI (Or.inl rfl) (S_leave _ _ I)) (fun r1 h1 q1 => ?_)
  obtain ⟨q1, v, rfl⟩ := q1
  refine al_aload_n (q := 2) C dL_law_633 rfl rfl ?_
  refine al_arg (z := 0) (q0 := 0) (q4 := 4) (j := 1) C rfl rfl rfl (by omega) dL_law_634 dL_law_635 dL_law_637 dL_law_638 dL_law_639 ?_
  refine al_call (a := 200) (As := [.int (xs (i + 1))]) (rest := [.int v]) C dL_law_640 lL_80 rfl rfl (Nat.le_of_ble_eq_true rfl) (Nat.le_of_ble_eq_true rfl) hk hn rfl q1 (fun r2 h2 q2 => ?_)
  obtain ⟨rfl, I2⟩ := q2
  exact al_icmp_eq (tgt := 1220) C dL_law_643 (by decide) (fun _ => K _ I2) (fun z => absurd rfl z)
theorem lc_undo {i : Nat} (C : al_C p s m meth c b L xs D cy ad qo) (hi : i + 6 ≤ L) (hk : k ≤ 601024) (hn : n ≤ 7293034) (I : INV h) (K : ∀ h', INV h' → al_S p l e s m below meth c b D cy ad qo k n 1220 (al_ls b ad qo i) [] h' o) : al_S p l e s m below meth c b D cy ad qo k n 717 (al_ls b ad qo i) [] h o := by
  refine al_aload_n (q := 1) C dL_law_717 rfl rfl ?_
  refine al_call (a := 0) (As := []) (rest := []) C dL_law_718 lL_88 rfl rfl (Nat.le_of_ble_eq_true rfl) (Nat.le_of_ble_eq_true rfl) hk hn rfl (ab_retI (Or.inl rfl) (S_undo  _ I)) (fun r1 h1 q1 => ?_)
  obtain ⟨q1, v, rfl⟩ := q1
  refine al_aload_n (q := 2) C dL_law_721 rfl rfl ?_
  refine al_call (a := 200) (As := []) (rest := [.int v]) C dL_law_722 lL_91 rfl rfl (Nat.le_of_ble_eq_true rfl) (Nat.le_of_ble_eq_true rfl) hk hn rfl q1 (fun r2 h2 q2 => ?_)
  obtain ⟨rfl, I2⟩ := q2
  exact al_icmp_eq (tgt := 1220) C dL_law_725 (by decide) (fun _ => K _ I2) (fun z => absurd rfl z)
theorem lc_likely {i : Nat} (C : al_C p s m meth c b L xs D cy ad qo) (hi : i + 6 ≤ L) (hk : k ≤ 601024) (hn : n ≤ 7293034) (I : INV h) (K : ∀ h', INV h' → al_S p l e s m below meth c b D cy ad qo k n 1220 (al_ls b ad qo i) [] h' o) : al_S p l e s m below meth c b D cy ad qo k n 784 (al_ls b ad qo i) [] h o := by
  refine al_aload_n (q := 1) C dL_law_784 rfl rfl ?_
  refine al_arg (z := 0) (q0 := 0) (q4 := 4) (j := 1) C rfl rfl rfl (by omega) dL_law_785 dL_law_786 dL_law_788 dL_law_789 dL_law_790 ?_
  refine al_arg (z := 0) (q0 := 0) (q4 := 4) (j := 2) C rfl rfl rfl (by omega) dL_law_791 dL_law_792 dL_law_794 dL_law_795 dL_law_796 ?_
  refine al_call (a := 0) (As := [.int (xs (i + 1)), .int (xs (i + 2))]) (rest := []) C dL_law_797 lL_97 rfl rfl (Nat.le_of_ble_eq_true rfl) (Nat.le_of_ble_eq_true rfl) hk hn rfl (ab_retL rfl nr_likely (S_likely _ _ _ I)) (fun r1 h1 q1 => ?_)
  obtain ⟨q1, v, rfl⟩ := q1
  refine al_aload_n (q := 2) C dL_law_800 rfl rfl ?_
  refine al_arg (z := 0) (q0 := 0) (q4 := 4) (j := 1) C rfl rfl rfl (by omega) dL_law_801 dL_law_802 dL_law_804 dL_law_805 dL_law_806 ?_
  refine al_arg (z := 0) (q0 := 0) (q4 := 4) (j := 2) C rfl rfl rfl (by omega) dL_law_807 dL_law_808 dL_law_810 dL_law_811 dL_law_812 ?_
  refine al_call (a := 200) (As := [.int (xs (i + 1)), .int (xs (i + 2))]) (rest := [.long v]) C dL_law_813 lL_101 rfl rfl (Nat.le_of_ble_eq_true rfl) (Nat.le_of_ble_eq_true rfl) hk hn rfl q1 (fun r2 h2 q2 => ?_)
  obtain ⟨rfl, I2⟩ := q2
  refine al_lcmp C dL_law_816 ?_
  exact al_if_eq (tgt := 1220) C dL_law_817 (by decide) (fun _ => K _ I2) (fun z => absurd (lg_cmp_rf _) z)
theorem lc_ends {i : Nat} (C : al_C p s m meth c b L xs D cy ad qo) (hi : i + 6 ≤ L) (hk : k ≤ 601024) (hn : n ≤ 7293034) (I : INV h) (K : ∀ h', INV h' → al_S p l e s m below meth c b D cy ad qo k n 1220 (al_ls b ad qo i) [] h' o) : al_S p l e s m below meth c b D cy ad qo k n 822 (al_ls b ad qo i) [] h o := by
  refine al_aload_n (q := 1) C dL_law_822 rfl rfl ?_
  refine al_arg (z := 0) (q0 := 0) (q4 := 4) (j := 1) C rfl rfl rfl (by omega) dL_law_823 dL_law_824 dL_law_826 dL_law_827 dL_law_828 ?_
  refine al_arg (z := 0) (q0 := 0) (q4 := 4) (j := 2) C rfl rfl rfl (by omega) dL_law_829 dL_law_830 dL_law_832 dL_law_833 dL_law_834 ?_
  refine al_call (a := 0) (As := [.int (xs (i + 1)), .int (xs (i + 2))]) (rest := []) C dL_law_835 lL_102 rfl rfl (Nat.le_of_ble_eq_true rfl) (Nat.le_of_ble_eq_true rfl) hk hn rfl (ab_retI (Or.inl rfl) (S_ends _ _ _ I)) (fun r1 h1 q1 => ?_)
  obtain ⟨q1, v, rfl⟩ := q1
  refine al_aload_n (q := 2) C dL_law_838 rfl rfl ?_
  refine al_arg (z := 0) (q0 := 0) (q4 := 4) (j := 1) C rfl rfl rfl (by omega) dL_law_839 dL_law_840 dL_law_842 dL_law_843 dL_law_844 ?_
  refine al_arg (z := 0) (q0 := 0) (q4 := 4) (j := 2) C rfl rfl rfl (by omega) dL_law_845 dL_law_846 dL_law_848 dL_law_849 dL_law_850 ?_
  refine al_call (a := 200) (As := [.int (xs (i + 1)), .int (xs (i + 2))]) (rest := [.int v]) C dL_law_851 lL_105 rfl rfl (Nat.le_of_ble_eq_true rfl) (Nat.le_of_ble_eq_true rfl) hk hn rfl q1 (fun r2 h2 q2 => ?_)
  obtain ⟨rfl, I2⟩ := q2
  exact al_icmp_eq (tgt := 1220) C dL_law_854 (by decide) (fun _ => K _ I2) (fun z => absurd rfl z)
theorem lc_bays {i : Nat} (C : al_C p s m meth c b L xs D cy ad qo) (hi : i + 6 ≤ L) (hk : k ≤ 601024) (hn : n ≤ 7293034) (I : INV h) (K : ∀ h', INV h' → al_S p l e s m below meth c b D cy ad qo k n 1220 (al_ls b ad qo i) [] h' o) : al_S p l e s m below meth c b D cy ad qo k n 859 (al_ls b ad qo i) [] h o := by
  refine al_aload_n (q := 1) C dL_law_859 rfl rfl ?_
  refine al_arg (z := 0) (q0 := 0) (q4 := 4) (j := 1) C rfl rfl rfl (by omega) dL_law_860 dL_law_861 dL_law_863 dL_law_864 dL_law_865 ?_
  refine al_arg (z := 0) (q0 := 0) (q4 := 4) (j := 2) C rfl rfl rfl (by omega) dL_law_866 dL_law_867 dL_law_869 dL_law_870 dL_law_871 ?_
  refine al_call (a := 0) (As := [.int (xs (i + 1)), .int (xs (i + 2))]) (rest := []) C dL_law_872 lL_106 rfl rfl (Nat.le_of_ble_eq_true rfl) (Nat.le_of_ble_eq_true rfl) hk hn rfl (ab_retI (Or.inl rfl) (S_bays _ _ _ I)) (fun r1 h1 q1 => ?_)
  obtain ⟨q1, v, rfl⟩ := q1
  refine al_aload_n (q := 2) C dL_law_875 rfl rfl ?_
  refine al_arg (z := 0) (q0 := 0) (q4 := 4) (j := 1) C rfl rfl rfl (by omega) dL_law_876 dL_law_877 dL_law_879 dL_law_880 dL_law_881 ?_
  refine al_arg (z := 0) (q0 := 0) (q4 := 4) (j := 2) C rfl rfl rfl (by omega) dL_law_882 dL_law_883 dL_law_885 dL_law_886 dL_law_887 ?_
  refine al_call (a := 200) (As := [.int (xs (i + 1)), .int (xs (i + 2))]) (rest := [.int v]) C dL_law_888 lL_109 rfl rfl (Nat.le_of_ble_eq_true rfl) (Nat.le_of_ble_eq_true rfl) hk hn rfl q1 (fun r2 h2 q2 => ?_)
  obtain ⟨rfl, I2⟩ := q2
  exact al_icmp_eq (tgt := 1220) C dL_law_891 (by decide) (fun _ => K _ I2) (fun z => absurd rfl z)
theorem lc_hearse {i : Nat} (C : al_C p s m meth c b L xs D cy ad qo) (hi : i + 6 ≤ L) (hk : k ≤ 601024) (hn : n ≤ 7293034) (I : INV h) (K : ∀ h', INV h' → al_S p l e s m below meth c b D cy ad qo k n 1220 (al_ls b ad qo i) [] h' o) : al_S p l e s m below meth c b D cy ad qo k n 896 (al_ls b ad qo i) [] h o := by
  refine al_aload_n (q := 1) C dL_law_896 rfl rfl ?_
  refine al_arg (z := 0) (q0 := 0) (q4 := 4) (j := 1) C rfl rfl rfl (by omega) dL_law_897 dL_law_898 dL_law_900 dL_law_901 dL_law_902 ?_
  refine al_arg (z := 0) (q0 := 0) (q4 := 4) (j := 2) C rfl rfl rfl (by omega) dL_law_903 dL_law_904 dL_law_906 dL_law_907 dL_law_908 ?_
  refine al_call (a := 0) (As := [.int (xs (i + 1)), .int (xs (i + 2))]) (rest := []) C dL_law_909 lL_110 rfl rfl (Nat.le_of_ble_eq_true rfl) (Nat.le_of_ble_eq_true rfl) hk hn rfl (ab_retI (Or.inl rfl) (S_hearse _ _ _ I)) (fun r1 h1 q1 => ?_)
  obtain ⟨q1, v, rfl⟩ := q1
  refine al_aload_n (q := 2) C dL_law_912 rfl rfl ?_
  refine al_arg (z := 0) (q0 := 0) (q4 := 4) (j := 1) C rfl rfl rfl (by omega) dL_law_913 dL_law_914 dL_law_916 dL_law_917 dL_law_918 ?_
  refine al_arg (z := 0) (q0 := 0) (q4 := 4) (j := 2) C rfl rfl rfl (by omega) dL_law_919 dL_law_920 dL_law_922 dL_law_923 dL_law_924 ?_
  refine al_call (a := 200) (As := [.int (xs (i + 1)), .int (xs (i + 2))]) (rest := [.int v]) C dL_law_925 lL_113 rfl rfl (Nat.le_of_ble_eq_true rfl) (Nat.le_of_ble_eq_true rfl) hk hn rfl q1 (fun r2 h2 q2 => ?_)
  obtain ⟨rfl, I2⟩ := q2
  exact al_icmp_eq (tgt := 1220) C dL_law_928 (by decide) (fun _ => K _ I2) (fun z => absurd rfl z)
theorem lc_gate {i : Nat} (C : al_C p s m meth c b L xs D cy ad qo) (hi : i + 6 ≤ L) (hk : k ≤ 601024) (hn : n ≤ 7293034) (I : INV h) (K : ∀ h', INV h' → al_S p l e s m below meth c b D cy ad qo k n 1220 (al_ls b ad qo i) [] h' o) : al_S p l e s m below meth c b D cy ad qo k n 933 (al_ls b ad qo i) [] h o := by
  refine al_aload_n (q := 1) C dL_law_933 rfl rfl ?_
  refine al_arg (z := 0) (q0 := 0) (q4 := 4) (j := 1) C rfl rfl rfl (by omega) dL_law_934 dL_law_935 dL_law_937 dL_law_938 dL_law_939 ?_
  refine al_arg (z := 0) (q0 := 0) (q4 := 4) (j := 2) C rfl rfl rfl (by omega) dL_law_940 dL_law_941 dL_law_943 dL_law_944 dL_law_945 ?_
  refine al_call (a := 0) (As := [.int (xs (i + 1)), .int (xs (i + 2))]) (rest := []) C dL_law_946 lL_114 rfl rfl (Nat.le_of_ble_eq_true rfl) (Nat.le_of_ble_eq_true rfl) hk hn rfl (ab_retL rfl nr_gate (S_gate _ _ _ I)) (fun r1 h1 q1 => ?_)
  obtain ⟨q1, v, rfl⟩ := q1
  refine al_aload_n (q := 2) C dL_law_949 rfl rfl ?_
  refine al_arg (z := 0) (q0 := 0) (q4 := 4) (j := 1) C rfl rfl rfl (by omega) dL_law_950 dL_law_951 dL_law_953 dL_law_954 dL_law_955 ?_
  refine al_arg (z := 0) (q0 := 0) (q4 := 4) (j := 2) C rfl rfl rfl (by omega) dL_law_956 dL_law_957 dL_law_959 dL_law_960 dL_law_961 ?_
  refine al_call (a := 200) (As := [.int (xs (i + 1)), .int (xs (i + 2))]) (rest := [.long v]) C dL_law_962 lL_117 rfl rfl (Nat.le_of_ble_eq_true rfl) (Nat.le_of_ble_eq_true rfl) hk hn rfl q1 (fun r2 h2 q2 => ?_)
  obtain ⟨rfl, I2⟩ := q2
  refine al_lcmp C dL_law_965 ?_
  exact al_if_eq (tgt := 1220) C dL_law_966 (by decide) (fun _ => K _ I2) (fun z => absurd (lg_cmp_rf _) z)
theorem lc_came {i : Nat} (C : al_C p s m meth c b L xs D cy ad qo) (hi : i + 6 ≤ L) (hk : k ≤ 601024) (hn : n ≤ 7293034) (I : INV h) (K : ∀ h', INV h' → al_S p l e s m below meth c b D cy ad qo k n 1220 (al_ls b ad qo i) [] h' o) : al_S p l e s m below meth c b D cy ad qo k n 971 (al_ls b ad qo i) [] h o := by
  refine al_aload_n (q := 1) C dL_law_971 rfl rfl ?_
  refine al_call (a := 0) (As := []) (rest := []) C dL_law_972 lL_118 rfl rfl (Nat.le_of_ble_eq_true rfl) (Nat.le_of_ble_eq_true rfl) hk hn rfl (ab_retL rfl nr_came (S_came  _ I)) (fun r1 h1 q1 => ?_)
  obtain ⟨q1, v, rfl⟩ := q1
  refine al_aload_n (q := 2) C dL_law_975 rfl rfl ?_
  refine al_call (a := 200) (As := []) (rest := [.long v]) C dL_law_976 lL_122 rfl rfl (Nat.le_of_ble_eq_true rfl) (Nat.le_of_ble_eq_true rfl) hk hn rfl q1 (fun r2 h2 q2 => ?_)
  obtain ⟨rfl, I2⟩ := q2
  refine al_lcmp C dL_law_979 ?_
  exact al_if_eq (tgt := 1220) C dL_law_980 (by decide) (fun _ => K _ I2) (fun z => absurd (lg_cmp_rf _) z)
theorem lc_last {i : Nat} (C : al_C p s m meth c b L xs D cy ad qo) (hi : i + 6 ≤ L) (hk : k ≤ 601024) (hn : n ≤ 7293034) (I : INV h) (K : ∀ h', INV h' → al_S p l e s m below meth c b D cy ad qo k n 1220 (al_ls b ad qo i) [] h' o) : al_S p l e s m below meth c b D cy ad qo k n 985 (al_ls b ad qo i) [] h o := by
  refine al_aload_n (q := 1) C dL_law_985 rfl rfl ?_
  refine al_call (a := 0) (As := []) (rest := []) C dL_law_986 lL_123 rfl rfl (Nat.le_of_ble_eq_true rfl) (Nat.le_of_ble_eq_true rfl) hk hn rfl (ab_retI (Or.inl rfl) (S_last  _ I)) (fun r1 h1 q1 => ?_)
  obtain ⟨q1, v, rfl⟩ := q1
  refine al_aload_n (q := 2) C dL_law_989 rfl rfl ?_
  refine al_call (a := 200) (As := []) (rest := [.int v]) C dL_law_990 lL_126 rfl rfl (Nat.le_of_ble_eq_true rfl) (Nat.le_of_ble_eq_true rfl) hk hn rfl q1 (fun r2 h2 q2 => ?_)
  obtain ⟨rfl, I2⟩ := q2
  exact al_icmp_eq (tgt := 1220) C dL_law_993 (by decide) (fun _ => K _ I2) (fun z => absurd rfl z)
theorem lc_seek {i : Nat} (C : al_C p s m meth c b L xs D cy ad qo) (hi : i + 6 ≤ L) (hk : k ≤ 601024) (hn : n ≤ 7293034) (I : INV h) (K : ∀ h', INV h' → al_S p l e s m below meth c b D cy ad qo k n 1220 (al_ls b ad qo i) [] h' o) : al_S p l e s m below meth c b D cy ad qo k n 998 (al_ls b ad qo i) [] h o := by
  refine al_aload_n (q := 1) C dL_law_998 rfl rfl ?_
  refine al_arg (z := 0) (q0 := 0) (q4 := 4) (j := 1) C rfl rfl rfl (by omega) dL_law_999 dL_law_1000 dL_law_1002 dL_law_1003 dL_law_1004 ?_
  refine al_arg (z := 0) (q0 := 0) (q4 := 4) (j := 2) C rfl rfl rfl (by omega) dL_law_1005 dL_law_1006 dL_law_1008 dL_law_1009 dL_law_1010 ?_
  refine al_arg (z := 0) (q0 := 0) (q4 := 4) (j := 3) C rfl rfl rfl (by omega) dL_law_1011 dL_law_1012 dL_law_1014 dL_law_1015 dL_law_1016 ?_
  refine al_arg (z := 0) (q0 := 0) (q4 := 4) (j := 4) C rfl rfl rfl (by omega) dL_law_1017 dL_law_1018 dL_law_1020 dL_law_1021 dL_law_1022 ?_
  refine al_arg (z := 0) (q0 := 0) (q4 := 4) (j := 5) C rfl rfl rfl (by omega) dL_law_1023 dL_law_1024 dL_law_1026 dL_law_1027 dL_law_1028 ?_
  refine al_call (a := 0) (As := [.int (xs (i + 1)), .int (xs (i + 2)), .int (xs (i + 3)), .int (xs (i + 4)), .int (xs (i + 5))]) (rest := []) C dL_law_1029 lL_127 rfl rfl (Nat.le_of_ble_eq_true rfl) (Nat.le_of_ble_eq_true rfl) hk hn rfl (ab_retI (Or.inl rfl) (S_seek _ _ _ _ _ _ I)) (fun r1 h1 q1 => ?_)
  obtain ⟨q1, v, rfl⟩ := q1
  refine al_aload_n (q := 2) C dL_law_1032 rfl rfl ?_
  refine al_arg (z := 0) (q0 := 0) (q4 := 4) (j := 1) C rfl rfl rfl (by omega) dL_law_1033 dL_law_1034 dL_law_1036 dL_law_1037 dL_law_1038 ?_
  refine al_arg (z := 0) (q0 := 0) (q4 := 4) (j := 2) C rfl rfl rfl (by omega) dL_law_1039 dL_law_1040 dL_law_1042 dL_law_1043 dL_law_1044 ?_
  refine al_arg (z := 0) (q0 := 0) (q4 := 4) (j := 3) C rfl rfl rfl (by omega) dL_law_1045 dL_law_1046 dL_law_1048 dL_law_1049 dL_law_1050 ?_
  refine al_arg (z := 0) (q0 := 0) (q4 := 4) (j := 4) C rfl rfl rfl (by omega) dL_law_1051 dL_law_1052 dL_law_1054 dL_law_1055 dL_law_1056 ?_
  refine al_arg (z := 0) (q0 := 0) (q4 := 4) (j := 5) C rfl rfl rfl (by omega) dL_law_1057 dL_law_1058 dL_law_1060 dL_law_1061 dL_law_1062 ?_
  refine al_call (a := 200) (As := [.int (xs (i + 1)), .int (xs (i + 2)), .int (xs (i + 3)), .int (xs (i + 4)), .int (xs (i + 5))]) (rest := [.int v]) C dL_law_1063 lL_130 rfl rfl (Nat.le_of_ble_eq_true rfl) (Nat.le_of_ble_eq_true rfl) hk hn rfl q1 (fun r2 h2 q2 => ?_)
  obtain ⟨rfl, I2⟩ := q2
  exact al_icmp_eq (tgt := 1220) C dL_law_1066 (by decide) (fun _ => K _ I2) (fun z => absurd rfl z)
theorem lc_take {i : Nat} (C : al_C p s m meth c b L xs D cy ad qo) (hi : i + 6 ≤ L) (hk : k ≤ 601024) (hn : n ≤ 7293034) (I : INV h) (K : ∀ h', INV h' → al_S p l e s m below meth c b D cy ad qo k n 1220 (al_ls b ad qo i) [] h' o) : al_S p l e s m below meth c b D cy ad qo k n 1071 (al_ls b ad qo i) [] h o := by
  refine al_aload_n (q := 1) C dL_law_1071 rfl rfl ?_
  refine al_arg (z := 0) (q0 := 0) (q4 := 4) (j := 1) C rfl rfl rfl (by omega) dL_law_1072 dL_law_1073 dL_law_1075 dL_law_1076 dL_law_1077 ?_
  refine al_arg (z := 0) (q0 := 0) (q4 := 4) (j := 2) C rfl rfl rfl (by omega) dL_law_1078 dL_law_1079 dL_law_1081 dL_law_1082 dL_law_1083 ?_
  refine al_arg (z := 0) (q0 := 0) (q4 := 4) (j := 3) C rfl rfl rfl (by omega) dL_law_1084 dL_law_1085 dL_law_1087 dL_law_1088 dL_law_1089 ?_
  refine al_arg (z := 0) (q0 := 0) (q4 := 4) (j := 4) C rfl rfl rfl (by omega) dL_law_1090 dL_law_1091 dL_law_1093 dL_law_1094 dL_law_1095 ?_
  refine al_arg (z := 0) (q0 := 0) (q4 := 4) (j := 5) C rfl rfl rfl (by omega) dL_law_1096 dL_law_1097 dL_law_1099 dL_law_1100 dL_law_1101 ?_
  refine al_call (a := 0) (As := [.int (xs (i + 1)), .int (xs (i + 2)), .int (xs (i + 3)), .int (xs (i + 4)), .int (xs (i + 5))]) (rest := []) C dL_law_1102 lL_131 rfl rfl (Nat.le_of_ble_eq_true rfl) (Nat.le_of_ble_eq_true rfl) hk hn rfl (ab_retI (Or.inl rfl) (S_take _ _ _ _ _ _ I)) (fun r1 h1 q1 => ?_)
  obtain ⟨q1, v, rfl⟩ := q1
  refine al_aload_n (q := 2) C dL_law_1105 rfl rfl ?_
  refine al_arg (z := 0) (q0 := 0) (q4 := 4) (j := 1) C rfl rfl rfl (by omega) dL_law_1106 dL_law_1107 dL_law_1109 dL_law_1110 dL_law_1111 ?_
  refine al_arg (z := 0) (q0 := 0) (q4 := 4) (j := 2) C rfl rfl rfl (by omega) dL_law_1112 dL_law_1113 dL_law_1115 dL_law_1116 dL_law_1117 ?_
  refine al_arg (z := 0) (q0 := 0) (q4 := 4) (j := 3) C rfl rfl rfl (by omega) dL_law_1118 dL_law_1119 dL_law_1121 dL_law_1122 dL_law_1123 ?_
  refine al_arg (z := 0) (q0 := 0) (q4 := 4) (j := 4) C rfl rfl rfl (by omega) dL_law_1124 dL_law_1125 dL_law_1127 dL_law_1128 dL_law_1129 ?_
  refine al_arg (z := 0) (q0 := 0) (q4 := 4) (j := 5) C rfl rfl rfl (by omega) dL_law_1130 dL_law_1131 dL_law_1133 dL_law_1134 dL_law_1135 ?_
  refine al_call (a := 200) (As := [.int (xs (i + 1)), .int (xs (i + 2)), .int (xs (i + 3)), .int (xs (i + 4)), .int (xs (i + 5))]) (rest := [.int v]) C dL_law_1136 lL_134 rfl rfl (Nat.le_of_ble_eq_true rfl) (Nat.le_of_ble_eq_true rfl) hk hn rfl q1 (fun r2 h2 q2 => ?_)
  obtain ⟨rfl, I2⟩ := q2
  exact al_icmp_eq (tgt := 1220) C dL_law_1139 (by decide) (fun _ => K _ I2) (fun z => absurd rfl z)
theorem lc_gaps {i : Nat} (C : al_C p s m meth c b L xs D cy ad qo) (hi : i + 6 ≤ L) (hk : k ≤ 601024) (hn : n ≤ 7293034) (I : INV h) (K : ∀ h', INV h' → al_S p l e s m below meth c b D cy ad qo k n 1220 (al_ls b ad qo i) [] h' o) : al_S p l e s m below meth c b D cy ad qo k n 1144 (al_ls b ad qo i) [] h o := by
  refine al_aload_n (q := 1) C dL_law_1144 rfl rfl ?_
  refine al_arg (z := 0) (q0 := 0) (q4 := 4) (j := 1) C rfl rfl rfl (by omega) dL_law_1145 dL_law_1146 dL_law_1148 dL_law_1149 dL_law_1150 ?_
  refine al_call (a := 0) (As := [.int (xs (i + 1))]) (rest := []) C dL_law_1151 lL_135 rfl rfl (Nat.le_of_ble_eq_true rfl) (Nat.le_of_ble_eq_true rfl) hk hn rfl (ab_retI (Or.inl rfl) (S_gaps _ _ I)) (fun r1 h1 q1 => ?_)
  obtain ⟨q1, v, rfl⟩ := q1
  refine al_aload_n (q := 2) C dL_law_1154 rfl rfl ?_
  refine al_arg (z := 0) (q0 := 0) (q4 := 4) (j := 1) C rfl rfl rfl (by omega) dL_law_1155 dL_law_1156 dL_law_1158 dL_law_1159 dL_law_1160 ?_
  refine al_call (a := 200) (As := [.int (xs (i + 1))]) (rest := [.int v]) C dL_law_1161 lL_138 rfl rfl (Nat.le_of_ble_eq_true rfl) (Nat.le_of_ble_eq_true rfl) hk hn rfl q1 (fun r2 h2 q2 => ?_)
  obtain ⟨rfl, I2⟩ := q2
  exact al_icmp_eq (tgt := 1220) C dL_law_1164 (by decide) (fun _ => K _ I2) (fun z => absurd rfl z)
theorem lc_image {i : Nat} (C : al_C p s m meth c b L xs D cy ad qo) (hi : i + 6 ≤ L) (hk : k ≤ 601024) (hn : n ≤ 7293034) (I : INV h) (K : ∀ h', INV h' → al_S p l e s m below meth c b D cy ad qo k n 1220 (al_ls b ad qo i) [] h' o) : al_S p l e s m below meth c b D cy ad qo k n 1169 (al_ls b ad qo i) [] h o := by
  refine al_aload_n (q := 1) C dL_law_1169 rfl rfl ?_
  refine al_call (a := 0) (As := []) (rest := []) C dL_law_1170 lL_139 rfl rfl (Nat.le_of_ble_eq_true rfl) (Nat.le_of_ble_eq_true rfl) hk hn rfl (ab_retI (Or.inl rfl) (S_image  _ I)) (fun r1 h1 q1 => ?_)
  obtain ⟨q1, v, rfl⟩ := q1
  refine al_aload_n (q := 2) C dL_law_1173 rfl rfl ?_
  refine al_call (a := 200) (As := []) (rest := [.int v]) C dL_law_1174 lL_142 rfl rfl (Nat.le_of_ble_eq_true rfl) (Nat.le_of_ble_eq_true rfl) hk hn rfl q1 (fun r2 h2 q2 => ?_)
  obtain ⟨rfl, I2⟩ := q2
  exact al_icmp_eq (tgt := 1220) C dL_law_1177 (by decide) (fun _ => K _ I2) (fun z => absurd rfl z)
theorem lc_back {i : Nat} (C : al_C p s m meth c b L xs D cy ad qo) (hi : i + 6 ≤ L) (hk : k ≤ 601024) (hn : n ≤ 7293034) (I : INV h) (K : ∀ h', INV h' → al_S p l e s m below meth c b D cy ad qo k n 1220 (al_ls b ad qo i) [] h' o) : al_S p l e s m below meth c b D cy ad qo k n 1182 (al_ls b ad qo i) [] h o := by
  refine al_aload_n (q := 1) C dL_law_1182 rfl rfl ?_
  refine al_call (a := 0) (As := []) (rest := []) C dL_law_1183 lL_143 rfl rfl (Nat.le_of_ble_eq_true rfl) (Nat.le_of_ble_eq_true rfl) hk hn rfl (ab_retI (Or.inl rfl) (S_back  _ I)) (fun r1 h1 q1 => ?_)
  obtain ⟨q1, v, rfl⟩ := q1
  refine al_aload_n (q := 2) C dL_law_1186 rfl rfl ?_
  refine al_call (a := 200) (As := []) (rest := [.int v]) C dL_law_1187 lL_146 rfl rfl (Nat.le_of_ble_eq_true rfl) (Nat.le_of_ble_eq_true rfl) hk hn rfl q1 (fun r2 h2 q2 => ?_)
  obtain ⟨rfl, I2⟩ := q2
  exact al_icmp_eq (tgt := 1220) C dL_law_1190 (by decide) (fun _ => K _ I2) (fun z => absurd rfl z)
theorem lc_count {i : Nat} (C : al_C p s m meth c b L xs D cy ad qo) (hi : i + 6 ≤ L) (hk : k ≤ 601024) (hn : n ≤ 7293034) (I : INV h) (K : ∀ h', INV h' → al_S p l e s m below meth c b D cy ad qo k n 1220 (al_ls b ad qo i) [] h' o) : al_S p l e s m below meth c b D cy ad qo k n 1195 (al_ls b ad qo i) [] h o := by
  refine al_aload_n (q := 1) C dL_law_1195 rfl rfl ?_
  refine al_arg (z := 0) (q0 := 0) (q4 := 4) (j := 1) C rfl rfl rfl (by omega) dL_law_1196 dL_law_1197 dL_law_1199 dL_law_1200 dL_law_1201 ?_
  refine al_call (a := 0) (As := [.int (xs (i + 1))]) (rest := []) C dL_law_1202 lL_147 rfl rfl (Nat.le_of_ble_eq_true rfl) (Nat.le_of_ble_eq_true rfl) hk hn rfl (ab_retI (Or.inl rfl) (S_count _ _ I)) (fun r1 h1 q1 => ?_)
  obtain ⟨q1, v, rfl⟩ := q1
  refine al_aload_n (q := 2) C dL_law_1205 rfl rfl ?_
  refine al_arg (z := 0) (q0 := 0) (q4 := 4) (j := 1) C rfl rfl rfl (by omega) dL_law_1206 dL_law_1207 dL_law_1209 dL_law_1210 dL_law_1211 ?_
  refine al_call (a := 200) (As := [.int (xs (i + 1))]) (rest := [.int v]) C dL_law_1212 lL_150 rfl rfl (Nat.le_of_ble_eq_true rfl) (Nat.le_of_ble_eq_true rfl) hk hn rfl q1 (fun r2 h2 q2 => ?_)
  obtain ⟨rfl, I2⟩ := q2
  exact al_icmp_eq (tgt := 1220) C dL_law_1215 (by decide) (fun _ => K _ I2) (fun z => absurd rfl z)
theorem lc_run {i : Nat} (C : al_C p s m meth c b L xs D cy ad qo) (hi : i + 6 ≤ L) (hk : k ≤ 601024) (hn : n ≤ 7293034) (I : INV h) (K : ∀ h', INV h' → al_S p l e s m below meth c b D cy ad qo k n 1220 (al_ls b ad qo i) [] h' o) : al_S p l e s m below meth c b D cy ad qo k n 648 (al_ls b ad qo i) [] h o := by
  refine al_aload_n (q := 1) C dL_law_648 rfl rfl ?_
  refine al_arg (z := 0) (q0 := 0) (q4 := 4) (j := 1) C rfl rfl rfl (by omega) dL_law_649 dL_law_650 dL_law_652 dL_law_653 dL_law_654 ?_
  refine al_arg (z := 0) (q0 := 0) (q4 := 4) (j := 2) C rfl rfl rfl (by omega) dL_law_655 dL_law_656 dL_law_658 dL_law_659 dL_law_660 ?_
  refine al_i2l C dL_law_661 ?_
  refine al_bipush (z := 32) C dL_law_662 rfl ?_
  refine al_lshl C dL_law_664 ?_
  refine al_arg (z := 0) (q0 := 0) (q4 := 4) (j := 3) C rfl rfl rfl (by omega) dL_law_665 dL_law_666 dL_law_668 dL_law_669 dL_law_670 ?_
  refine al_i2l C dL_law_671 ?_
  refine al_ldc2 C dL_law_672 qL_81 ?_
  refine al_land C dL_law_675 ?_
  refine al_lor C dL_law_676 ?_
  refine al_call (a := 0) (As := [.int (xs (i + 1)), .long (((xs (i + 2)).toInt64 <<< ((32 : Int32).toInt64 &&& 63)) ||| ((xs (i + 3)).toInt64 &&& 4294967295))]) (rest := []) C dL_law_677 lL_83 rfl rfl (Nat.le_of_ble_eq_true rfl) (Nat.le_of_ble_eq_true rfl) hk hn rfl (ab_retI (Or.inl rfl) (S_run _ _ _ I)) (fun r1 h1 q1 => ?_)
  obtain ⟨q1, v, rfl⟩ := q1
  refine al_aload_n (q := 2) C dL_law_680 rfl rfl ?_
  refine al_arg (z := 0) (q0 := 0) (q4 := 4) (j := 1) C rfl rfl rfl (by omega) dL_law_681 dL_law_682 dL_law_684 dL_law_685 dL_law_686 ?_
  refine al_arg (z := 0) (q0 := 0) (q4 := 4) (j := 2) C rfl rfl rfl (by omega) dL_law_687 dL_law_688 dL_law_690 dL_law_691 dL_law_692 ?_
  refine al_i2l C dL_law_693 ?_
  refine al_bipush (z := 32) C dL_law_694 rfl ?_
  refine al_lshl C dL_law_696 ?_
  refine al_arg (z := 0) (q0 := 0) (q4 := 4) (j := 3) C rfl rfl rfl (by omega) dL_law_697 dL_law_698 dL_law_700 dL_law_701 dL_law_702 ?_
  refine al_i2l C dL_law_703 ?_
  refine al_ldc2 C dL_law_704 qL_81 ?_
  refine al_land C dL_law_707 ?_
  refine al_lor C dL_law_708 ?_
  refine al_call (a := 200) (As := [.int (xs (i + 1)), .long (((xs (i + 2)).toInt64 <<< ((32 : Int32).toInt64 &&& 63)) ||| ((xs (i + 3)).toInt64 &&& 4294967295))]) (rest := [.int v]) C dL_law_709 lL_87 rfl rfl (Nat.le_of_ble_eq_true rfl) (Nat.le_of_ble_eq_true rfl) hk hn rfl q1 (fun r2 h2 q2 => ?_)
  obtain ⟨rfl, I2⟩ := q2
  exact al_icmp_eq (tgt := 1220) C dL_law_712 (by decide) (fun _ => K _ I2) (fun z => absurd rfl z)
theorem lc_mean {i : Nat} (C : al_C p s m meth c b L xs D cy ad qo) (hi : i + 6 ≤ L) (hk : k ≤ 601024) (hn : n ≤ 7293034) (I : INV h) (K : ∀ h', INV h' → al_S p l e s m below meth c b D cy ad qo k n 1220 (al_ls b ad qo i) [] h' o) : al_S p l e s m below meth c b D cy ad qo k n 730 (al_ls b ad qo i) [] h o := by
  refine al_aload_n (q := 1) C dL_law_730 rfl rfl ?_
  refine al_arg (z := 0) (q0 := 0) (q4 := 4) (j := 1) C rfl rfl rfl (by omega) dL_law_731 dL_law_732 dL_law_734 dL_law_735 dL_law_736 ?_
  refine al_arg (z := 0) (q0 := 0) (q4 := 4) (j := 2) C rfl rfl rfl (by omega) dL_law_737 dL_law_738 dL_law_740 dL_law_741 dL_law_742 ?_
  refine al_if_eq (tgt := 750) C dL_law_743 (by decide) (fun c0 => ?_) (fun c0 => ?_)
  · skip
    refine al_iconst (z := 0) C dL_law_750 rfl ?_
    refine al_call (a := 0) (As := [.int (xs (i + 1)), .int 0]) (rest := []) C dL_law_751 lL_92 rfl rfl (Nat.le_of_ble_eq_true rfl) (Nat.le_of_ble_eq_true rfl) hk hn rfl (ab_retL rfl nr_mean (S_mean0 _ _ I)) (fun r1 h1 q1 => ?_)
    obtain ⟨q1, v, rfl⟩ := q1
    refine al_aload_n (q := 2) C dL_law_754 rfl rfl ?_
    refine al_arg (z := 0) (q0 := 0) (q4 := 4) (j := 1) C rfl rfl rfl (by omega) dL_law_755 dL_law_756 dL_law_758 dL_law_759 dL_law_760 ?_
    refine al_arg (z := 0) (q0 := 0) (q4 := 4) (j := 2) C rfl rfl rfl (by omega) dL_law_761 dL_law_762 dL_law_764 dL_law_765 dL_law_766 ?_
    refine al_if_eq (tgt := 774) C dL_law_767 (by decide) (fun c1 => ?_) (fun c1 => absurd c0 c1)
    refine al_iconst (z := 0) C dL_law_774 rfl ?_
    refine al_call (a := 200) (As := [.int (xs (i + 1)), .int 0]) (rest := [.long v]) C dL_law_775 lL_96 rfl rfl (Nat.le_of_ble_eq_true rfl) (Nat.le_of_ble_eq_true rfl) hk hn rfl q1 (fun r2 h2 q2 => ?_)
    obtain ⟨rfl, I2⟩ := q2
    refine al_lcmp C dL_law_778 ?_
    exact al_if_eq (tgt := 1220) C dL_law_779 (by decide) (fun _ => K _ I2) (fun z => absurd (lg_cmp_rf _) z)
  · skip
    refine al_iconst (z := 1) C dL_law_746 rfl ?_
    refine al_goto (tgt := 751) C dL_law_747 (by decide) ?_
    refine al_call (a := 0) (As := [.int (xs (i + 1)), .int 1]) (rest := []) C dL_law_751 lL_92 rfl rfl (Nat.le_of_ble_eq_true rfl) (Nat.le_of_ble_eq_true rfl) hk hn rfl (ab_retL rfl nr_mean (S_mean1 _ _ I)) (fun r1 h1 q1 => ?_)
    obtain ⟨q1, v, rfl⟩ := q1
    refine al_aload_n (q := 2) C dL_law_754 rfl rfl ?_
    refine al_arg (z := 0) (q0 := 0) (q4 := 4) (j := 1) C rfl rfl rfl (by omega) dL_law_755 dL_law_756 dL_law_758 dL_law_759 dL_law_760 ?_
    refine al_arg (z := 0) (q0 := 0) (q4 := 4) (j := 2) C rfl rfl rfl (by omega) dL_law_761 dL_law_762 dL_law_764 dL_law_765 dL_law_766 ?_
    refine al_if_eq (tgt := 774) C dL_law_767 (by decide) (fun c1 => absurd c1 c0) (fun c1 => ?_)
    refine al_iconst (z := 1) C dL_law_770 rfl ?_
    refine al_goto (tgt := 775) C dL_law_771 (by decide) ?_
    refine al_call (a := 200) (As := [.int (xs (i + 1)), .int 1]) (rest := [.long v]) C dL_law_775 lL_96 rfl rfl (Nat.le_of_ble_eq_true rfl) (Nat.le_of_ble_eq_true rfl) hk hn rfl q1 (fun r2 h2 q2 => ?_)
    obtain ⟨rfl, I2⟩ := q2
    refine al_lcmp C dL_law_778 ?_
    exact al_if_eq (tgt := 1220) C dL_law_779 (by decide) (fun _ => K _ I2) (fun z => absurd (lg_cmp_rf _) z)
end LAW3
