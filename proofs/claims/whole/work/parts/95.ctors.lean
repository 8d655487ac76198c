/-! THE CONSTRUCTORS -/
section CTR
variable {l : Launch} {D : va_G} {cy : Nat → ClassId} {ad : Nat → Nat} {A : Nat → Prop} {w0 : va_W} {Q : va_W → Prop}
abbrev mX10_init : ab_M := (yX10_init, cX10_init, 1, none)
theorem ko_X10 : ab_ok mX10_init 0 := ⟨ab_inT1 (List.mem_of_getElem? (i := 36) (by decide +kernel)) (by decide +kernel), ab_inT1 (List.mem_of_getElem? (i := 2) (by decide +kernel)) (by decide +kernel), by decide +kernel, by decide +kernel, by decide +kernel, by decide +kernel, by decide +kernel⟩
theorem ki_X10 : Cond.instanceMethod mX10_init.1 ∈ ab_T := ab_inT1 (List.mem_of_getElem? (i := 35) (by decide +kernel)) (by decide +kernel)
theorem kj_X10 : Cond.methodLink RX10 3 objectInit ∈ ab_T := ab_inT1 (List.mem_of_getElem? (i := 37) (by decide +kernel)) (by decide +kernel)
theorem kf_X10_9 : ac_fl RX10 9 10 0 true (.array .int) := ⟨(RX10, TX10, 4), rfl, by decide, rfl, rfl, ab_inT1 (List.mem_of_getElem? (i := 38) (by decide +kernel)) (by decide +kernel), rfl, tyX10_ok 0 (by decide)⟩
theorem k_X10 {d a : Nat} (K : ∀ (p1 : Nat), Q (([(a, .inr (10, [.ref p1, .int 0, .int 0, .int 0]))] : va_W) ++ ([(p1, .inl (cy 20, 160, .inl (fun _ => 0)))] : va_W))) : ac_S l D cy ad A 1 160 (d + 1) mX10_init 0 (lv_args 0 [.ref a]) [] w0 ([(a, .inr (10, [.null, .int 0, .int 0, .int 0]))] : va_W) 0 0 Q := by
  show ac_S l D cy ad A 1 160 (d + 1) mX10_init 0 [(0, .ref a)] [] w0 ([(a, .inr (10, [.null, .int 0, .int 0, .int 0]))] : va_W) 0 0 Q
  refine ac_aload_n (q := 0) dX10_init_0 rfl rfl ?_
  refine ac_obj dX10_init_1 kj_X10 (by decide) ?_
  refine ac_aload_n (q := 0) dX10_init_4 rfl rfl ?_
  refine ac_sipush (z := (160)) dX10_init_5 (by decide) ?_
  refine ac_newI (N := 160) dX10_init_8 (by decide) (by decide) (by decide) (by decide) (by decide) (fun p1 => ?_)
  show ac_S l D cy ad A 1 160 (d + 1) mX10_init 10 [(0, .ref a)] [.ref p1, .ref a] w0 (([(a, .inr (10, [.null, .int 0, .int 0, .int 0]))] : va_W) ++ ([(p1, .inl (cy 20, 160, .inl (fun _ => 0)))] : va_W)) 1 160 Q
  refine ac_putR (j := 0) dX10_init_10 kf_X10_9 rfl (Nat.le_of_ble_eq_true rfl) rfl rfl ?_
  show ac_S l D cy ad A 1 160 (d + 1) mX10_init 13 [(0, .ref a)] [] w0 (([(a, .inr (10, [.ref p1, .int 0, .int 0, .int 0]))] : va_W) ++ ([(p1, .inl (cy 20, 160, .inl (fun _ => 0)))] : va_W)) 1 160 Q
  exact ac_vret dX10_init_13 rfl (by decide) (by decide) (K p1)
abbrev mX6_init : ab_M := (yX6_init, cX6_init, 1, none)
theorem ko_X6 : ab_ok mX6_init 0 := ⟨ab_inT1 (List.mem_of_getElem? (i := 65) (by decide +kernel)) (by decide +kernel), ab_inT1 (List.mem_of_getElem? (i := 4) (by decide +kernel)) (by decide +kernel), by decide +kernel, by decide +kernel, by decide +kernel, by decide +kernel, by decide +kernel⟩
theorem ki_X6 : Cond.instanceMethod mX6_init.1 ∈ ab_T := ab_inT1 (List.mem_of_getElem? (i := 64) (by decide +kernel)) (by decide +kernel)
theorem kj_X6 : Cond.methodLink RX6 3 objectInit ∈ ab_T := ab_inT1 (List.mem_of_getElem? (i := 66) (by decide +kernel)) (by decide +kernel)
theorem kf_X6_9 : ac_fl RX6 9 6 4 true (.array .int) := ⟨(RX6, TX6, 7), rfl, by decide, rfl, rfl, ab_inT1 (List.mem_of_getElem? (i := 82) (by decide +kernel)) (by decide +kernel), rfl, tyX6_ok 4 (by decide)⟩
theorem kf_X6_15 : ac_fl RX6 15 6 5 true (.array .int) := ⟨(RX6, TX6, 7), rfl, by decide, rfl, rfl, ab_inT1 (List.mem_of_getElem? (i := 83) (by decide +kernel)) (by decide +kernel), rfl, tyX6_ok 5 (by decide)⟩
theorem kf_X6_18 : ac_fl RX6 18 6 6 true (.array .boolean) := ⟨(RX6, TX6, 7), rfl, by decide, rfl, rfl, ab_inT1 (List.mem_of_getElem? (i := 84) (by decide +kernel)) (by decide +kernel), rfl, tyX6_ok 6 (by decide)⟩
theorem k_X6 {d a : Nat} (K : ∀ (p1 : Nat) (p2 : Nat) (p3 : Nat), Q (((([(a, .inr (6, [.int 0, .int 0, .int 0, .int 0, .ref p1, .ref p2, .ref p3]))] : va_W) ++ ([(p1, .inl (cy 20, 4, .inl (fun _ => 0)))] : va_W)) ++ ([(p2, .inl (cy 20, 4, .inl (fun _ => 0)))] : va_W)) ++ ([(p3, .inl (cy 22, 20, .inl (fun _ => 0)))] : va_W))) : ac_S l D cy ad A 3 28 (d + 1) mX6_init 0 (lv_args 0 [.ref a]) [] w0 ([(a, .inr (6, [.int 0, .int 0, .int 0, .int 0, .null, .null, .null]))] : va_W) 0 0 Q := by
  show ac_S l D cy ad A 3 28 (d + 1) mX6_init 0 [(0, .ref a)] [] w0 ([(a, .inr (6, [.int 0, .int 0, .int 0, .int 0, .null, .null, .null]))] : va_W) 0 0 Q
  refine ac_aload_n (q := 0) dX6_init_0 rfl rfl ?_
  refine ac_obj dX6_init_1 kj_X6 (by decide) ?_
  refine ac_aload_n (q := 0) dX6_init_4 rfl rfl ?_
  refine ac_iconst (z := (4)) dX6_init_5 (by decide) ?_
  refine ac_newI (N := 4) dX6_init_6 (by decide) (by decide) (by decide) (by decide) (by decide) (fun p1 => ?_)
  show ac_S l D cy ad A 3 28 (d + 1) mX6_init 8 [(0, .ref a)] [.ref p1, .ref a] w0 (([(a, .inr (6, [.int 0, .int 0, .int 0, .int 0, .null, .null, .null]))] : va_W) ++ ([(p1, .inl (cy 20, 4, .inl (fun _ => 0)))] : va_W)) 1 4 Q
  refine ac_putR (j := 0) dX6_init_8 kf_X6_9 rfl (Nat.le_of_ble_eq_true rfl) rfl rfl ?_
  show ac_S l D cy ad A 3 28 (d + 1) mX6_init 11 [(0, .ref a)] [] w0 (([(a, .inr (6, [.int 0, .int 0, .int 0, .int 0, .ref p1, .null, .null]))] : va_W) ++ ([(p1, .inl (cy 20, 4, .inl (fun _ => 0)))] : va_W)) 1 4 Q
  refine ac_aload_n (q := 0) dX6_init_11 rfl rfl ?_
  refine ac_iconst (z := (4)) dX6_init_12 (by decide) ?_
  refine ac_newI (N := 4) dX6_init_13 (by decide) (by decide) (by decide) (by decide) (by decide) (fun p2 => ?_)
  show ac_S l D cy ad A 3 28 (d + 1) mX6_init 15 [(0, .ref a)] [.ref p2, .ref a] w0 ((([(a, .inr (6, [.int 0, .int 0, .int 0, .int 0, .ref p1, .null, .null]))] : va_W) ++ ([(p1, .inl (cy 20, 4, .inl (fun _ => 0)))] : va_W)) ++ ([(p2, .inl (cy 20, 4, .inl (fun _ => 0)))] : va_W)) 2 8 Q
  refine ac_putR (j := 0) dX6_init_15 kf_X6_15 rfl (Nat.le_of_ble_eq_true rfl) rfl rfl ?_
  show ac_S l D cy ad A 3 28 (d + 1) mX6_init 18 [(0, .ref a)] [] w0 ((([(a, .inr (6, [.int 0, .int 0, .int 0, .int 0, .ref p1, .ref p2, .null]))] : va_W) ++ ([(p1, .inl (cy 20, 4, .inl (fun _ => 0)))] : va_W)) ++ ([(p2, .inl (cy 20, 4, .inl (fun _ => 0)))] : va_W)) 2 8 Q
  refine ac_aload_n (q := 0) dX6_init_18 rfl rfl ?_
  refine ac_bipush (z := (20)) dX6_init_19 (by decide) ?_
  refine ac_newZ (N := 20) dX6_init_21 (by decide) (by decide) (by decide) (by decide) (by decide) (fun p3 => ?_)
  show ac_S l D cy ad A 3 28 (d + 1) mX6_init 23 [(0, .ref a)] [.ref p3, .ref a] w0 (((([(a, .inr (6, [.int 0, .int 0, .int 0, .int 0, .ref p1, .ref p2, .null]))] : va_W) ++ ([(p1, .inl (cy 20, 4, .inl (fun _ => 0)))] : va_W)) ++ ([(p2, .inl (cy 20, 4, .inl (fun _ => 0)))] : va_W)) ++ ([(p3, .inl (cy 22, 20, .inl (fun _ => 0)))] : va_W)) 3 28 Q
  refine ac_putR (j := 0) dX6_init_23 kf_X6_18 rfl (Nat.le_of_ble_eq_true rfl) rfl rfl ?_
  show ac_S l D cy ad A 3 28 (d + 1) mX6_init 26 [(0, .ref a)] [] w0 (((([(a, .inr (6, [.int 0, .int 0, .int 0, .int 0, .ref p1, .ref p2, .ref p3]))] : va_W) ++ ([(p1, .inl (cy 20, 4, .inl (fun _ => 0)))] : va_W)) ++ ([(p2, .inl (cy 20, 4, .inl (fun _ => 0)))] : va_W)) ++ ([(p3, .inl (cy 22, 20, .inl (fun _ => 0)))] : va_W)) 3 28 Q
  exact ac_vret dX6_init_26 rfl (by decide) (by decide) (K p1 p2 p3)
abbrev mX7_init : ab_M := (yX7_init, cX7_init, 1, none)
theorem ko_X7 : ab_ok mX7_init 0 := ⟨ab_inT1 (List.mem_of_getElem? (i := 131) (by decide +kernel)) (by decide +kernel), ab_inT1 (List.mem_of_getElem? (i := 6) (by decide +kernel)) (by decide +kernel), by decide +kernel, by decide +kernel, by decide +kernel, by decide +kernel, by decide +kernel⟩
theorem ki_X7 : Cond.instanceMethod mX7_init.1 ∈ ab_T := ab_inT1 (List.mem_of_getElem? (i := 130) (by decide +kernel)) (by decide +kernel)
theorem kj_X7 : Cond.methodLink RX7 3 objectInit ∈ ab_T := ab_inT1 (List.mem_of_getElem? (i := 132) (by decide +kernel)) (by decide +kernel)
theorem kf_X7_9 : ac_fl RX7 9 7 0 true (.array .int) := ⟨(RX7, TX7, 5), rfl, by decide, rfl, rfl, ab_inT1 (List.mem_of_getElem? (i := 133) (by decide +kernel)) (by decide +kernel), rfl, tyX7_ok 0 (by decide)⟩
theorem kf_X7_15 : ac_fl RX7 15 7 1 true (.array .int) := ⟨(RX7, TX7, 5), rfl, by decide, rfl, rfl, ab_inT1 (List.mem_of_getElem? (i := 134) (by decide +kernel)) (by decide +kernel), rfl, tyX7_ok 1 (by decide)⟩
theorem kf_X7_18 : ac_fl RX7 18 7 2 true (.array .int) := ⟨(RX7, TX7, 5), rfl, by decide, rfl, rfl, ab_inT1 (List.mem_of_getElem? (i := 135) (by decide +kernel)) (by decide +kernel), rfl, tyX7_ok 2 (by decide)⟩
theorem k_X7 {d a : Nat} (K : ∀ (p1 : Nat) (p2 : Nat) (p3 : Nat), Q (((([(a, .inr (7, [.ref p1, .ref p2, .ref p3, .int 0, .int 0]))] : va_W) ++ ([(p1, .inl (cy 20, 160, .inl (fun _ => 0)))] : va_W)) ++ ([(p2, .inl (cy 20, 160, .inl (fun _ => 0)))] : va_W)) ++ ([(p3, .inl (cy 20, 32, .inl (fun _ => 0)))] : va_W))) : ac_S l D cy ad A 3 352 (d + 1) mX7_init 0 (lv_args 0 [.ref a]) [] w0 ([(a, .inr (7, [.null, .null, .null, .int 0, .int 0]))] : va_W) 0 0 Q := by
  show ac_S l D cy ad A 3 352 (d + 1) mX7_init 0 [(0, .ref a)] [] w0 ([(a, .inr (7, [.null, .null, .null, .int 0, .int 0]))] : va_W) 0 0 Q
  refine ac_aload_n (q := 0) dX7_init_0 rfl rfl ?_
  refine ac_obj dX7_init_1 kj_X7 (by decide) ?_
  refine ac_aload_n (q := 0) dX7_init_4 rfl rfl ?_
  refine ac_sipush (z := (160)) dX7_init_5 (by decide) ?_
  refine ac_newI (N := 160) dX7_init_8 (by decide) (by decide) (by decide) (by decide) (by decide) (fun p1 => ?_)
  show ac_S l D cy ad A 3 352 (d + 1) mX7_init 10 [(0, .ref a)] [.ref p1, .ref a] w0 (([(a, .inr (7, [.null, .null, .null, .int 0, .int 0]))] : va_W) ++ ([(p1, .inl (cy 20, 160, .inl (fun _ => 0)))] : va_W)) 1 160 Q
  refine ac_putR (j := 0) dX7_init_10 kf_X7_9 rfl (Nat.le_of_ble_eq_true rfl) rfl rfl ?_
  show ac_S l D cy ad A 3 352 (d + 1) mX7_init 13 [(0, .ref a)] [] w0 (([(a, .inr (7, [.ref p1, .null, .null, .int 0, .int 0]))] : va_W) ++ ([(p1, .inl (cy 20, 160, .inl (fun _ => 0)))] : va_W)) 1 160 Q
  refine ac_aload_n (q := 0) dX7_init_13 rfl rfl ?_
  refine ac_sipush (z := (160)) dX7_init_14 (by decide) ?_
  refine ac_newI (N := 160) dX7_init_17 (by decide) (by decide) (by decide) (by decide) (by decide) (fun p2 => ?_)
  show ac_S l D cy ad A 3 352 (d + 1) mX7_init 19 [(0, .ref a)] [.ref p2, .ref a] w0 ((([(a, .inr (7, [.ref p1, .null, .null, .int 0, .int 0]))] : va_W) ++ ([(p1, .inl (cy 20, 160, .inl (fun _ => 0)))] : va_W)) ++ ([(p2, .inl (cy 20, 160, .inl (fun _ => 0)))] : va_W)) 2 320 Q
  refine ac_putR (j := 0) dX7_init_19 kf_X7_15 rfl (Nat.le_of_ble_eq_true rfl) rfl rfl ?_
  show ac_S l D cy ad A 3 352 (d + 1) mX7_init 22 [(0, .ref a)] [] w0 ((([(a, .inr (7, [.ref p1, .ref p2, .null, .int 0, .int 0]))] : va_W) ++ ([(p1, .inl (cy 20, 160, .inl (fun _ => 0)))] : va_W)) ++ ([(p2, .inl (cy 20, 160, .inl (fun _ => 0)))] : va_W)) 2 320 Q
  refine ac_aload_n (q := 0) dX7_init_22 rfl rfl ?_
  refine ac_bipush (z := (32)) dX7_init_23 (by decide) ?_
  refine ac_newI (N := 32) dX7_init_25 (by decide) (by decide) (by decide) (by decide) (by decide) (fun p3 => ?_)
  show ac_S l D cy ad A 3 352 (d + 1) mX7_init 27 [(0, .ref a)] [.ref p3, .ref a] w0 (((([(a, .inr (7, [.ref p1, .ref p2, .null, .int 0, .int 0]))] : va_W) ++ ([(p1, .inl (cy 20, 160, .inl (fun _ => 0)))] : va_W)) ++ ([(p2, .inl (cy 20, 160, .inl (fun _ => 0)))] : va_W)) ++ ([(p3, .inl (cy 20, 32, .inl (fun _ => 0)))] : va_W)) 3 352 Q
  refine ac_putR (j := 0) dX7_init_27 kf_X7_18 rfl (Nat.le_of_ble_eq_true rfl) rfl rfl ?_
  show ac_S l D cy ad A 3 352 (d + 1) mX7_init 30 [(0, .ref a)] [] w0 (((([(a, .inr (7, [.ref p1, .ref p2, .ref p3, .int 0, .int 0]))] : va_W) ++ ([(p1, .inl (cy 20, 160, .inl (fun _ => 0)))] : va_W)) ++ ([(p2, .inl (cy 20, 160, .inl (fun _ => 0)))] : va_W)) ++ ([(p3, .inl (cy 20, 32, .inl (fun _ => 0)))] : va_W)) 3 352 Q
  exact ac_vret dX7_init_30 rfl (by decide) (by decide) (K p1 p2 p3)
abbrev mX8_init : ab_M := (yX8_init, cX8_init, 2, none)
theorem ko_X8 : ab_ok mX8_init 1 := ⟨ab_inT1 (List.mem_of_getElem? (i := 125) (by decide +kernel)) (by decide +kernel), ab_inT1 (List.mem_of_getElem? (i := 5) (by decide +kernel)) (by decide +kernel), by decide +kernel, by decide +kernel, by decide +kernel, by decide +kernel, by decide +kernel⟩
theorem ki_X8 : Cond.instanceMethod mX8_init.1 ∈ ab_T := ab_inT1 (List.mem_of_getElem? (i := 124) (by decide +kernel)) (by decide +kernel)
theorem kj_X8 : Cond.methodLink RX8 3 objectInit ∈ ab_T := ab_inT1 (List.mem_of_getElem? (i := 126) (by decide +kernel)) (by decide +kernel)
theorem kn_X8_9 : ac_nw RX8 9 7 5 [.null, .null, .null, .int 0, .int 0] := ⟨(RX7, TX7, 5), tyX7, rfl, rfl, tyX7_ok, ab_inT1 (List.mem_of_getElem? (i := 127) (by decide +kernel)) (by decide +kernel), ab_inT1 (List.mem_of_getElem? (i := 128) (by decide +kernel)) (by decide +kernel), ab_inT1 (List.mem_of_getElem? (i := 6) (by decide +kernel)) (by decide +kernel), fun j hj => (show ∀ j, j < 5 → defaultValue (tyX7 j) = vp_V [.null, .null, .null, .int 0, .int 0] j by decide +kernel) j hj⟩
theorem kl_X8_11 : ac_li RX8 11 mX7_init 0 := ⟨ab_inN (List.mem_of_getElem? (i := 129) (by decide +kernel)) (by decide +kernel), ko_X7, rfl, rfl, ki_X7⟩
theorem kf_X8_12 : ac_fl RX8 12 8 1 true (.object "KerbSide$Rule") := ⟨(RX8, TX8, 2), rfl, by decide, rfl, rfl, ab_inT1 (List.mem_of_getElem? (i := 151) (by decide +kernel)) (by decide +kernel), rfl, tyX8_ok 1 (by decide)⟩
theorem kf_X8_18 : ac_fl RX8 18 8 0 true (.object "KerbSide$Tape") := ⟨(RX8, TX8, 2), rfl, by decide, rfl, rfl, ab_inT1 (List.mem_of_getElem? (i := 150) (by decide +kernel)) (by decide +kernel), rfl, tyX8_ok 0 (by decide)⟩
theorem k_X8 {d a b1 : Nat} (K : ∀ (p1 : Nat) (p2 : Nat) (p3 : Nat) (p4 : Nat), Q (([(a, .inr (8, [.ref b1, .ref p1]))] : va_W) ++ (((([(p1, .inr (7, [.ref p2, .ref p3, .ref p4, .int 0, .int 0]))] : va_W) ++ ([(p2, .inl (cy 20, 160, .inl (fun _ => 0)))] : va_W)) ++ ([(p3, .inl (cy 20, 160, .inl (fun _ => 0)))] : va_W)) ++ ([(p4, .inl (cy 20, 32, .inl (fun _ => 0)))] : va_W)))) : ac_S l D cy ad A 4 357 (d + 2) mX8_init 0 (lv_args 0 [.ref a, .ref b1]) [] w0 ([(a, .inr (8, [.null, .null]))] : va_W) 0 0 Q := by
  show ac_S l D cy ad A 4 357 (d + 2) mX8_init 0 [(0, .ref a), (1, .ref b1)] [] w0 ([(a, .inr (8, [.null, .null]))] : va_W) 0 0 Q
  refine ac_aload_n (q := 0) dX8_init_0 rfl rfl ?_
  refine ac_obj dX8_init_1 kj_X8 (by decide) ?_
  refine ac_aload_n (q := 0) dX8_init_4 rfl rfl ?_
  refine ac_new dX8_init_5 kn_X8_9 (by decide) (by decide) (fun p1 => ?_)
  show ac_S l D cy ad A 4 357 (d + 2) mX8_init 8 [(0, .ref a), (1, .ref b1)] [.ref p1, .ref a] w0 (([(a, .inr (8, [.null, .null]))] : va_W) ++ ([(p1, .inr (7, [.null, .null, .null, .int 0, .int 0]))] : va_W)) 1 5 Q
  refine ac_dup dX8_init_8 rfl ?_
  refine ac_call (mc' := 3) (ms' := 352) (M' := mX7_init) (a := p1) (As := []) (rest := [.ref p1, .ref a]) (ys := ([(a, .inr (8, [.null, .null]))] : va_W)) (zs := [(p1, .inr (7, [.null, .null, .null, .int 0, .int 0]))]) dX8_init_9 kl_X8_11 rfl (Nat.le_of_ble_eq_true rfl) (Nat.le_of_ble_eq_true rfl) (by decide) (by decide) rfl rfl ?_
  refine k_X7 (fun p2 p3 p4 => ?_)
  show ac_S l D cy ad A 4 357 (d + 2) mX8_init 12 [(0, .ref a), (1, .ref b1)] [.ref p1, .ref a] w0 (([(a, .inr (8, [.null, .null]))] : va_W) ++ (((([(p1, .inr (7, [.ref p2, .ref p3, .ref p4, .int 0, .int 0]))] : va_W) ++ ([(p2, .inl (cy 20, 160, .inl (fun _ => 0)))] : va_W)) ++ ([(p3, .inl (cy 20, 160, .inl (fun _ => 0)))] : va_W)) ++ ([(p4, .inl (cy 20, 32, .inl (fun _ => 0)))] : va_W))) 4 357 Q
  refine ac_putR (j := 0) dX8_init_12 kf_X8_12 rfl (Nat.le_of_ble_eq_true rfl) rfl rfl ?_
  show ac_S l D cy ad A 4 357 (d + 2) mX8_init 15 [(0, .ref a), (1, .ref b1)] [] w0 (([(a, .inr (8, [.null, .ref p1]))] : va_W) ++ (((([(p1, .inr (7, [.ref p2, .ref p3, .ref p4, .int 0, .int 0]))] : va_W) ++ ([(p2, .inl (cy 20, 160, .inl (fun _ => 0)))] : va_W)) ++ ([(p3, .inl (cy 20, 160, .inl (fun _ => 0)))] : va_W)) ++ ([(p4, .inl (cy 20, 32, .inl (fun _ => 0)))] : va_W))) 4 357 Q
  refine ac_aload_n (q := 0) dX8_init_15 rfl rfl ?_
  refine ac_aload_n (q := 1) dX8_init_16 rfl rfl ?_
  refine ac_putR (j := 0) dX8_init_17 kf_X8_18 rfl (Nat.le_of_ble_eq_true rfl) rfl rfl ?_
  show ac_S l D cy ad A 4 357 (d + 2) mX8_init 20 [(0, .ref a), (1, .ref b1)] [] w0 (([(a, .inr (8, [.ref b1, .ref p1]))] : va_W) ++ (((([(p1, .inr (7, [.ref p2, .ref p3, .ref p4, .int 0, .int 0]))] : va_W) ++ ([(p2, .inl (cy 20, 160, .inl (fun _ => 0)))] : va_W)) ++ ([(p3, .inl (cy 20, 160, .inl (fun _ => 0)))] : va_W)) ++ ([(p4, .inl (cy 20, 32, .inl (fun _ => 0)))] : va_W))) 4 357 Q
  exact ac_vret dX8_init_20 rfl (by decide) (by decide) (K p1 p2 p3 p4)
abbrev mX3_init : ab_M := (yX3_init, cX3_init, 2, none)
theorem ko_X3 : ab_ok mX3_init 1 := ⟨ab_inT1 (List.mem_of_getElem? (i := 59) (by decide +kernel)) (by decide +kernel), ab_inT1 (List.mem_of_getElem? (i := 3) (by decide +kernel)) (by decide +kernel), by decide +kernel, by decide +kernel, by decide +kernel, by decide +kernel, by decide +kernel⟩
theorem ki_X3 : Cond.instanceMethod mX3_init.1 ∈ ab_T := ab_inT1 (List.mem_of_getElem? (i := 58) (by decide +kernel)) (by decide +kernel)
theorem kj_X3 : Cond.methodLink RX3 3 objectInit ∈ ab_T := ab_inT1 (List.mem_of_getElem? (i := 60) (by decide +kernel)) (by decide +kernel)
theorem kn_X3_9 : ac_nw RX3 9 6 7 [.int 0, .int 0, .int 0, .int 0, .null, .null, .null] := ⟨(RX6, TX6, 7), tyX6, rfl, rfl, tyX6_ok, ab_inT1 (List.mem_of_getElem? (i := 61) (by decide +kernel)) (by decide +kernel), ab_inT1 (List.mem_of_getElem? (i := 62) (by decide +kernel)) (by decide +kernel), ab_inT1 (List.mem_of_getElem? (i := 4) (by decide +kernel)) (by decide +kernel), fun j hj => (show ∀ j, j < 7 → defaultValue (tyX6 j) = vp_V [.int 0, .int 0, .int 0, .int 0, .null, .null, .null] j by decide +kernel) j hj⟩
theorem kl_X3_11 : ac_li RX3 11 mX6_init 0 := ⟨ab_inN (List.mem_of_getElem? (i := 63) (by decide +kernel)) (by decide +kernel), ko_X6, rfl, rfl, ki_X6⟩
theorem kf_X3_12 : ac_fl RX3 12 3 1 true (.object "KerbSide$Plan") := ⟨(RX3, TX3, 6), rfl, by decide, rfl, rfl, ab_inT1 (List.mem_of_getElem? (i := 102) (by decide +kernel)) (by decide +kernel), rfl, tyX3_ok 1 (by decide)⟩
theorem kf_X3_18 : ac_fl RX3 18 3 2 true (.array .int) := ⟨(RX3, TX3, 6), rfl, by decide, rfl, rfl, ab_inT1 (List.mem_of_getElem? (i := 104) (by decide +kernel)) (by decide +kernel), rfl, tyX3_ok 2 (by decide)⟩
theorem kf_X3_22 : ac_fl RX3 22 3 3 true (.array .boolean) := ⟨(RX3, TX3, 6), rfl, by decide, rfl, rfl, ab_inT1 (List.mem_of_getElem? (i := 105) (by decide +kernel)) (by decide +kernel), rfl, tyX3_ok 3 (by decide)⟩
theorem kf_X3_26 : ac_fl RX3 26 3 0 true (.object "KerbSide$Tape") := ⟨(RX3, TX3, 6), rfl, by decide, rfl, rfl, ab_inT1 (List.mem_of_getElem? (i := 101) (by decide +kernel)) (by decide +kernel), rfl, tyX3_ok 0 (by decide)⟩
theorem k_X3 {d a b1 : Nat} (K : ∀ (p1 : Nat) (p2 : Nat) (p3 : Nat) (p4 : Nat) (p5 : Nat) (p6 : Nat), Q (((([(a, .inr (3, [.ref b1, .ref p1, .ref p5, .ref p6, .int 0, .int 0]))] : va_W) ++ (((([(p1, .inr (6, [.int 0, .int 0, .int 0, .int 0, .ref p2, .ref p3, .ref p4]))] : va_W) ++ ([(p2, .inl (cy 20, 4, .inl (fun _ => 0)))] : va_W)) ++ ([(p3, .inl (cy 20, 4, .inl (fun _ => 0)))] : va_W)) ++ ([(p4, .inl (cy 22, 20, .inl (fun _ => 0)))] : va_W))) ++ ([(p5, .inl (cy 20, 3, .inl (fun _ => 0)))] : va_W)) ++ ([(p6, .inl (cy 22, 3, .inl (fun _ => 0)))] : va_W))) : ac_S l D cy ad A 6 41 (d + 2) mX3_init 0 (lv_args 0 [.ref a, .ref b1]) [] w0 ([(a, .inr (3, [.null, .null, .null, .null, .int 0, .int 0]))] : va_W) 0 0 Q := by
  show ac_S l D cy ad A 6 41 (d + 2) mX3_init 0 [(0, .ref a), (1, .ref b1)] [] w0 ([(a, .inr (3, [.null, .null, .null, .null, .int 0, .int 0]))] : va_W) 0 0 Q
  refine ac_aload_n (q := 0) dX3_init_0 rfl rfl ?_
  refine ac_obj dX3_init_1 kj_X3 (by decide) ?_
  refine ac_aload_n (q := 0) dX3_init_4 rfl rfl ?_
  refine ac_new dX3_init_5 kn_X3_9 (by decide) (by decide) (fun p1 => ?_)
  show ac_S l D cy ad A 6 41 (d + 2) mX3_init 8 [(0, .ref a), (1, .ref b1)] [.ref p1, .ref a] w0 (([(a, .inr (3, [.null, .null, .null, .null, .int 0, .int 0]))] : va_W) ++ ([(p1, .inr (6, [.int 0, .int 0, .int 0, .int 0, .null, .null, .null]))] : va_W)) 1 7 Q
  refine ac_dup dX3_init_8 rfl ?_
  refine ac_call (mc' := 3) (ms' := 28) (M' := mX6_init) (a := p1) (As := []) (rest := [.ref p1, .ref a]) (ys := ([(a, .inr (3, [.null, .null, .null, .null, .int 0, .int 0]))] : va_W)) (zs := [(p1, .inr (6, [.int 0, .int 0, .int 0, .int 0, .null, .null, .null]))]) dX3_init_9 kl_X3_11 rfl (Nat.le_of_ble_eq_true rfl) (Nat.le_of_ble_eq_true rfl) (by decide) (by decide) rfl rfl ?_
  refine k_X6 (fun p2 p3 p4 => ?_)
  show ac_S l D cy ad A 6 41 (d + 2) mX3_init 12 [(0, .ref a), (1, .ref b1)] [.ref p1, .ref a] w0 (([(a, .inr (3, [.null, .null, .null, .null, .int 0, .int 0]))] : va_W) ++ (((([(p1, .inr (6, [.int 0, .int 0, .int 0, .int 0, .ref p2, .ref p3, .ref p4]))] : va_W) ++ ([(p2, .inl (cy 20, 4, .inl (fun _ => 0)))] : va_W)) ++ ([(p3, .inl (cy 20, 4, .inl (fun _ => 0)))] : va_W)) ++ ([(p4, .inl (cy 22, 20, .inl (fun _ => 0)))] : va_W))) 4 35 Q
  refine ac_putR (j := 0) dX3_init_12 kf_X3_12 rfl (Nat.le_of_ble_eq_true rfl) rfl rfl ?_
  show ac_S l D cy ad A 6 41 (d + 2) mX3_init 15 [(0, .ref a), (1, .ref b1)] [] w0 (([(a, .inr (3, [.null, .ref p1, .null, .null, .int 0, .int 0]))] : va_W) ++ (((([(p1, .inr (6, [.int 0, .int 0, .int 0, .int 0, .ref p2, .ref p3, .ref p4]))] : va_W) ++ ([(p2, .inl (cy 20, 4, .inl (fun _ => 0)))] : va_W)) ++ ([(p3, .inl (cy 20, 4, .inl (fun _ => 0)))] : va_W)) ++ ([(p4, .inl (cy 22, 20, .inl (fun _ => 0)))] : va_W))) 4 35 Q
  refine ac_aload_n (q := 0) dX3_init_15 rfl rfl ?_
  refine ac_iconst (z := (3)) dX3_init_16 (by decide) ?_
  refine ac_newI (N := 3) dX3_init_17 (by decide) (by decide) (by decide) (by decide) (by decide) (fun p5 => ?_)
  show ac_S l D cy ad A 6 41 (d + 2) mX3_init 19 [(0, .ref a), (1, .ref b1)] [.ref p5, .ref a] w0 ((([(a, .inr (3, [.null, .ref p1, .null, .null, .int 0, .int 0]))] : va_W) ++ (((([(p1, .inr (6, [.int 0, .int 0, .int 0, .int 0, .ref p2, .ref p3, .ref p4]))] : va_W) ++ ([(p2, .inl (cy 20, 4, .inl (fun _ => 0)))] : va_W)) ++ ([(p3, .inl (cy 20, 4, .inl (fun _ => 0)))] : va_W)) ++ ([(p4, .inl (cy 22, 20, .inl (fun _ => 0)))] : va_W))) ++ ([(p5, .inl (cy 20, 3, .inl (fun _ => 0)))] : va_W)) 5 38 Q
  refine ac_putR (j := 0) dX3_init_19 kf_X3_18 rfl (Nat.le_of_ble_eq_true rfl) rfl rfl ?_
  show ac_S l D cy ad A 6 41 (d + 2) mX3_init 22 [(0, .ref a), (1, .ref b1)] [] w0 ((([(a, .inr (3, [.null, .ref p1, .ref p5, .null, .int 0, .int 0]))] : va_W) ++ (((([(p1, .inr (6, [.int 0, .int 0, .int 0, .int 0, .ref p2, .ref p3, .ref p4]))] : va_W) ++ ([(p2, .inl (cy 20, 4, .inl (fun _ => 0)))] : va_W)) ++ ([(p3, .inl (cy 20, 4, .inl (fun _ => 0)))] : va_W)) ++ ([(p4, .inl (cy 22, 20, .inl (fun _ => 0)))] : va_W))) ++ ([(p5, .inl (cy 20, 3, .inl (fun _ => 0)))] : va_W)) 5 38 Q
  refine ac_aload_n (q := 0) dX3_init_22 rfl rfl ?_
  refine ac_iconst (z := (3)) dX3_init_23 (by decide) ?_
  refine ac_newZ (N := 3) dX3_init_24 (by decide) (by decide) (by decide) (by decide) (by decide) (fun p6 => ?_)
  show ac_S l D cy ad A 6 41 (d + 2) mX3_init 26 [(0, .ref a), (1, .ref b1)] [.ref p6, .ref a] w0 (((([(a, .inr (3, [.null, .ref p1, .ref p5, .null, .int 0, .int 0]))] : va_W) ++ (((([(p1, .inr (6, [.int 0, .int 0, .int 0, .int 0, .ref p2, .ref p3, .ref p4]))] : va_W) ++ ([(p2, .inl (cy 20, 4, .inl (fun _ => 0)))] : va_W)) ++ ([(p3, .inl (cy 20, 4, .inl (fun _ => 0)))] : va_W)) ++ ([(p4, .inl (cy 22, 20, .inl (fun _ => 0)))] : va_W))) ++ ([(p5, .inl (cy 20, 3, .inl (fun _ => 0)))] : va_W)) ++ ([(p6, .inl (cy 22, 3, .inl (fun _ => 0)))] : va_W)) 6 41 Q
  refine ac_putR (j := 0) dX3_init_26 kf_X3_22 rfl (Nat.le_of_ble_eq_true rfl) rfl rfl ?_
  show ac_S l D cy ad A 6 41 (d + 2) mX3_init 29 [(0, .ref a), (1, .ref b1)] [] w0 (((([(a, .inr (3, [.null, .ref p1, .ref p5, .ref p6, .int 0, .int 0]))] : va_W) ++ (((([(p1, .inr (6, [.int 0, .int 0, .int 0, .int 0, .ref p2, .ref p3, .ref p4]))] : va_W) ++ ([(p2, .inl (cy 20, 4, .inl (fun _ => 0)))] : va_W)) ++ ([(p3, .inl (cy 20, 4, .inl (fun _ => 0)))] : va_W)) ++ ([(p4, .inl (cy 22, 20, .inl (fun _ => 0)))] : va_W))) ++ ([(p5, .inl (cy 20, 3, .inl (fun _ => 0)))] : va_W)) ++ ([(p6, .inl (cy 22, 3, .inl (fun _ => 0)))] : va_W)) 6 41 Q
  refine ac_aload_n (q := 0) dX3_init_29 rfl rfl ?_
  refine ac_aload_n (q := 1) dX3_init_30 rfl rfl ?_
  refine ac_putR (j := 0) dX3_init_31 kf_X3_26 rfl (Nat.le_of_ble_eq_true rfl) rfl rfl ?_
  show ac_S l D cy ad A 6 41 (d + 2) mX3_init 34 [(0, .ref a), (1, .ref b1)] [] w0 (((([(a, .inr (3, [.ref b1, .ref p1, .ref p5, .ref p6, .int 0, .int 0]))] : va_W) ++ (((([(p1, .inr (6, [.int 0, .int 0, .int 0, .int 0, .ref p2, .ref p3, .ref p4]))] : va_W) ++ ([(p2, .inl (cy 20, 4, .inl (fun _ => 0)))] : va_W)) ++ ([(p3, .inl (cy 20, 4, .inl (fun _ => 0)))] : va_W)) ++ ([(p4, .inl (cy 22, 20, .inl (fun _ => 0)))] : va_W))) ++ ([(p5, .inl (cy 20, 3, .inl (fun _ => 0)))] : va_W)) ++ ([(p6, .inl (cy 22, 3, .inl (fun _ => 0)))] : va_W)) 6 41 Q
  exact ac_vret dX3_init_34 rfl (by decide) (by decide) (K p1 p2 p3 p4 p5 p6)
abbrev mX4_init : ab_M := (yX4_init, cX4_init, 3, none)
theorem ko_X4 : ab_ok mX4_init 2 := ⟨ab_inT1 (List.mem_of_getElem? (i := 259) (by decide +kernel)) (by decide +kernel), ab_inT1 (List.mem_of_getElem? (i := 11) (by decide +kernel)) (by decide +kernel), by decide +kernel, by decide +kernel, by decide +kernel, by decide +kernel, by decide +kernel⟩
theorem ki_X4 : Cond.instanceMethod mX4_init.1 ∈ ab_T := ab_inT1 (List.mem_of_getElem? (i := 258) (by decide +kernel)) (by decide +kernel)
theorem kj_X4 : Cond.methodLink RX4 3 objectInit ∈ ab_T := ab_inT1 (List.mem_of_getElem? (i := 260) (by decide +kernel)) (by decide +kernel)
theorem kf_X4_9 : ac_fl RX4 9 4 0 true (.object "KerbSide$Plan") := ⟨(RX4, TX4, 7), rfl, by decide, rfl, rfl, ab_inT1 (List.mem_of_getElem? (i := 261) (by decide +kernel)) (by decide +kernel), rfl, tyX4_ok 0 (by decide)⟩
theorem kf_X4_15 : ac_fl RX4 15 4 1 true (.object "KerbSide$Street") := ⟨(RX4, TX4, 7), rfl, by decide, rfl, rfl, ab_inT1 (List.mem_of_getElem? (i := 262) (by decide +kernel)) (by decide +kernel), rfl, tyX4_ok 1 (by decide)⟩
theorem k_X4 {d a b1 b2 : Nat} (K : Q ([(a, .inr (4, [.ref b1, .ref b2, .int 0, .int 0, .int 0, .int 0, .int 0]))] : va_W)) : ac_S l D cy ad A 0 0 (d + 1) mX4_init 0 (lv_args 0 [.ref a, .ref b1, .ref b2]) [] w0 ([(a, .inr (4, [.null, .null, .int 0, .int 0, .int 0, .int 0, .int 0]))] : va_W) 0 0 Q := by
  show ac_S l D cy ad A 0 0 (d + 1) mX4_init 0 [(0, .ref a), (1, .ref b1), (2, .ref b2)] [] w0 ([(a, .inr (4, [.null, .null, .int 0, .int 0, .int 0, .int 0, .int 0]))] : va_W) 0 0 Q
  refine ac_aload_n (q := 0) dX4_init_0 rfl rfl ?_
  refine ac_obj dX4_init_1 kj_X4 (by decide) ?_
  refine ac_aload_n (q := 0) dX4_init_4 rfl rfl ?_
  refine ac_aload_n (q := 1) dX4_init_5 rfl rfl ?_
  refine ac_putR (j := 0) dX4_init_6 kf_X4_9 rfl (Nat.le_of_ble_eq_true rfl) rfl rfl ?_
  show ac_S l D cy ad A 0 0 (d + 1) mX4_init 9 [(0, .ref a), (1, .ref b1), (2, .ref b2)] [] w0 ([(a, .inr (4, [.ref b1, .null, .int 0, .int 0, .int 0, .int 0, .int 0]))] : va_W) 0 0 Q
  refine ac_aload_n (q := 0) dX4_init_9 rfl rfl ?_
  refine ac_aload_n (q := 2) dX4_init_10 rfl rfl ?_
  refine ac_putR (j := 0) dX4_init_11 kf_X4_15 rfl (Nat.le_of_ble_eq_true rfl) rfl rfl ?_
  show ac_S l D cy ad A 0 0 (d + 1) mX4_init 14 [(0, .ref a), (1, .ref b1), (2, .ref b2)] [] w0 ([(a, .inr (4, [.ref b1, .ref b2, .int 0, .int 0, .int 0, .int 0, .int 0]))] : va_W) 0 0 Q
  exact ac_vret dX4_init_14 rfl (by decide) (by decide) (K)
abbrev mX1_init : ab_M := (yX1_init, cX1_init, 3, none)
theorem ko_X1 : ab_ok mX1_init 2 := ⟨ab_inT1 (List.mem_of_getElem? (i := 290) (by decide +kernel)) (by decide +kernel), ab_inT1 (List.mem_of_getElem? (i := 12) (by decide +kernel)) (by decide +kernel), by decide +kernel, by decide +kernel, by decide +kernel, by decide +kernel, by decide +kernel⟩
theorem ki_X1 : Cond.instanceMethod mX1_init.1 ∈ ab_T := ab_inT1 (List.mem_of_getElem? (i := 289) (by decide +kernel)) (by decide +kernel)
theorem kj_X1 : Cond.methodLink RX1 3 objectInit ∈ ab_T := ab_inT1 (List.mem_of_getElem? (i := 291) (by decide +kernel)) (by decide +kernel)
theorem kf_X1_9 : ac_fl RX1 9 1 0 true (.object "KerbSide$Plan") := ⟨(RX1, TX1, 5), rfl, by decide, rfl, rfl, ab_inT1 (List.mem_of_getElem? (i := 292) (by decide +kernel)) (by decide +kernel), rfl, tyX1_ok 0 (by decide)⟩
theorem kf_X1_15 : ac_fl RX1 15 1 1 true (.object "KerbSide$Street") := ⟨(RX1, TX1, 5), rfl, by decide, rfl, rfl, ab_inT1 (List.mem_of_getElem? (i := 293) (by decide +kernel)) (by decide +kernel), rfl, tyX1_ok 1 (by decide)⟩
theorem k_X1 {d a b1 b2 : Nat} (K : Q ([(a, .inr (1, [.ref b1, .ref b2, .long 0, .int 0, .int 0]))] : va_W)) : ac_S l D cy ad A 0 0 (d + 1) mX1_init 0 (lv_args 0 [.ref a, .ref b1, .ref b2]) [] w0 ([(a, .inr (1, [.null, .null, .long 0, .int 0, .int 0]))] : va_W) 0 0 Q := by
  show ac_S l D cy ad A 0 0 (d + 1) mX1_init 0 [(0, .ref a), (1, .ref b1), (2, .ref b2)] [] w0 ([(a, .inr (1, [.null, .null, .long 0, .int 0, .int 0]))] : va_W) 0 0 Q
  refine ac_aload_n (q := 0) dX1_init_0 rfl rfl ?_
  refine ac_obj dX1_init_1 kj_X1 (by decide) ?_
  refine ac_aload_n (q := 0) dX1_init_4 rfl rfl ?_
  refine ac_aload_n (q := 1) dX1_init_5 rfl rfl ?_
  refine ac_putR (j := 0) dX1_init_6 kf_X1_9 rfl (Nat.le_of_ble_eq_true rfl) rfl rfl ?_
  show ac_S l D cy ad A 0 0 (d + 1) mX1_init 9 [(0, .ref a), (1, .ref b1), (2, .ref b2)] [] w0 ([(a, .inr (1, [.ref b1, .null, .long 0, .int 0, .int 0]))] : va_W) 0 0 Q
  refine ac_aload_n (q := 0) dX1_init_9 rfl rfl ?_
  refine ac_aload_n (q := 2) dX1_init_10 rfl rfl ?_
  refine ac_putR (j := 0) dX1_init_11 kf_X1_15 rfl (Nat.le_of_ble_eq_true rfl) rfl rfl ?_
  show ac_S l D cy ad A 0 0 (d + 1) mX1_init 14 [(0, .ref a), (1, .ref b1), (2, .ref b2)] [] w0 ([(a, .inr (1, [.ref b1, .ref b2, .long 0, .int 0, .int 0]))] : va_W) 0 0 Q
  exact ac_vret dX1_init_14 rfl (by decide) (by decide) (K)
abbrev mX2_init : ab_M := (yX2_init, cX2_init, 1, none)
theorem ko_X2 : ab_ok mX2_init 0 := ⟨ab_inT1 (List.mem_of_getElem? (i := 216) (by decide +kernel)) (by decide +kernel), ab_inT1 (List.mem_of_getElem? (i := 9) (by decide +kernel)) (by decide +kernel), by decide +kernel, by decide +kernel, by decide +kernel, by decide +kernel, by decide +kernel⟩
theorem ki_X2 : Cond.instanceMethod mX2_init.1 ∈ ab_T := ab_inT1 (List.mem_of_getElem? (i := 215) (by decide +kernel)) (by decide +kernel)
theorem kj_X2 : Cond.methodLink RX2 3 objectInit ∈ ab_T := ab_inT1 (List.mem_of_getElem? (i := 217) (by decide +kernel)) (by decide +kernel)
theorem kf_X2_9 : ac_fl RX2 9 2 0 true (.array .int) := ⟨(RX2, TX2, 3), rfl, by decide, rfl, rfl, ab_inT1 (List.mem_of_getElem? (i := 218) (by decide +kernel)) (by decide +kernel), rfl, tyX2_ok 0 (by decide)⟩
theorem kf_X2_15 : ac_fl RX2 15 2 1 true (.array .int) := ⟨(RX2, TX2, 3), rfl, by decide, rfl, rfl, ab_inT1 (List.mem_of_getElem? (i := 219) (by decide +kernel)) (by decide +kernel), rfl, tyX2_ok 1 (by decide)⟩
theorem k_X2 {d a : Nat} (K : ∀ (p1 : Nat) (p2 : Nat), Q ((([(a, .inr (2, [.ref p1, .ref p2, .int 0]))] : va_W) ++ ([(p1, .inl (cy 20, 20, .inl (fun _ => 0)))] : va_W)) ++ ([(p2, .inl (cy 20, 20, .inl (fun _ => 0)))] : va_W))) : ac_S l D cy ad A 2 40 (d + 1) mX2_init 0 (lv_args 0 [.ref a]) [] w0 ([(a, .inr (2, [.null, .null, .int 0]))] : va_W) 0 0 Q := by
  show ac_S l D cy ad A 2 40 (d + 1) mX2_init 0 [(0, .ref a)] [] w0 ([(a, .inr (2, [.null, .null, .int 0]))] : va_W) 0 0 Q
  refine ac_aload_n (q := 0) dX2_init_0 rfl rfl ?_
  refine ac_obj dX2_init_1 kj_X2 (by decide) ?_
  refine ac_aload_n (q := 0) dX2_init_4 rfl rfl ?_
  refine ac_bipush (z := (20)) dX2_init_5 (by decide) ?_
  refine ac_newI (N := 20) dX2_init_7 (by decide) (by decide) (by decide) (by decide) (by decide) (fun p1 => ?_)
  show ac_S l D cy ad A 2 40 (d + 1) mX2_init 9 [(0, .ref a)] [.ref p1, .ref a] w0 (([(a, .inr (2, [.null, .null, .int 0]))] : va_W) ++ ([(p1, .inl (cy 20, 20, .inl (fun _ => 0)))] : va_W)) 1 20 Q
  refine ac_putR (j := 0) dX2_init_9 kf_X2_9 rfl (Nat.le_of_ble_eq_true rfl) rfl rfl ?_
  show ac_S l D cy ad A 2 40 (d + 1) mX2_init 12 [(0, .ref a)] [] w0 (([(a, .inr (2, [.ref p1, .null, .int 0]))] : va_W) ++ ([(p1, .inl (cy 20, 20, .inl (fun _ => 0)))] : va_W)) 1 20 Q
  refine ac_aload_n (q := 0) dX2_init_12 rfl rfl ?_
  refine ac_bipush (z := (20)) dX2_init_13 (by decide) ?_
  refine ac_newI (N := 20) dX2_init_15 (by decide) (by decide) (by decide) (by decide) (by decide) (fun p2 => ?_)
  show ac_S l D cy ad A 2 40 (d + 1) mX2_init 17 [(0, .ref a)] [.ref p2, .ref a] w0 ((([(a, .inr (2, [.ref p1, .null, .int 0]))] : va_W) ++ ([(p1, .inl (cy 20, 20, .inl (fun _ => 0)))] : va_W)) ++ ([(p2, .inl (cy 20, 20, .inl (fun _ => 0)))] : va_W)) 2 40 Q
  refine ac_putR (j := 0) dX2_init_17 kf_X2_15 rfl (Nat.le_of_ble_eq_true rfl) rfl rfl ?_
  show ac_S l D cy ad A 2 40 (d + 1) mX2_init 20 [(0, .ref a)] [] w0 ((([(a, .inr (2, [.ref p1, .ref p2, .int 0]))] : va_W) ++ ([(p1, .inl (cy 20, 20, .inl (fun _ => 0)))] : va_W)) ++ ([(p2, .inl (cy 20, 20, .inl (fun _ => 0)))] : va_W)) 2 40 Q
  exact ac_vret dX2_init_20 rfl (by decide) (by decide) (K p1 p2)
abbrev mX5_init : ab_M := (yX5_init, cX5_init, 1, none)
theorem ko_X5 : ab_ok mX5_init 0 := ⟨ab_inT1 (List.mem_of_getElem? (i := 234) (by decide +kernel)) (by decide +kernel), ab_inT1 (List.mem_of_getElem? (i := 10) (by decide +kernel)) (by decide +kernel), by decide +kernel, by decide +kernel, by decide +kernel, by decide +kernel, by decide +kernel⟩
theorem ki_X5 : Cond.instanceMethod mX5_init.1 ∈ ab_T := ab_inT1 (List.mem_of_getElem? (i := 233) (by decide +kernel)) (by decide +kernel)
theorem kj_X5 : Cond.methodLink RX5 3 objectInit ∈ ab_T := ab_inT1 (List.mem_of_getElem? (i := 235) (by decide +kernel)) (by decide +kernel)
theorem kf_X5_9 : ac_fl RX5 9 5 0 true (.array .long) := ⟨(RX5, TX5, 5), rfl, by decide, rfl, rfl, ab_inT1 (List.mem_of_getElem? (i := 238) (by decide +kernel)) (by decide +kernel), rfl, tyX5_ok 0 (by decide)⟩
theorem kf_X5_15 : ac_fl RX5 15 5 1 true (.array .int) := ⟨(RX5, TX5, 5), rfl, by decide, rfl, rfl, ab_inT1 (List.mem_of_getElem? (i := 239) (by decide +kernel)) (by decide +kernel), rfl, tyX5_ok 1 (by decide)⟩
theorem kq_X5_19 : Cond.classLink RX5 19 "[[J" ∈ ab_T := ab_inT1 (List.mem_of_getElem? (i := 236) (by decide +kernel)) (by decide +kernel)
theorem kf_X5_21 : ac_fl RX5 21 5 2 true (.array (.array .long)) := ⟨(RX5, TX5, 5), rfl, by decide, rfl, rfl, ab_inT1 (List.mem_of_getElem? (i := 240) (by decide +kernel)) (by decide +kernel), rfl, tyX5_ok 2 (by decide)⟩
theorem kf_X5_24 : ac_fl RX5 24 5 3 true (.array .long) := ⟨(RX5, TX5, 5), rfl, by decide, rfl, rfl, ab_inT1 (List.mem_of_getElem? (i := 241) (by decide +kernel)) (by decide +kernel), rfl, tyX5_ok 3 (by decide)⟩
theorem kf_X5_27 : ac_fl RX5 27 5 4 true (.array .long) := ⟨(RX5, TX5, 5), rfl, by decide, rfl, rfl, ab_inT1 (List.mem_of_getElem? (i := 242) (by decide +kernel)) (by decide +kernel), rfl, tyX5_ok 4 (by decide)⟩
theorem k_X5 {d a : Nat} (K : ∀ (p1 : Nat) (p2 : Nat) (p3 : Nat) (tt : Nat → Nat) (p4 : Nat) (p5 : Nat), Q (((((([(a, .inr (5, [.ref p1, .ref p2, .ref p3, .ref p4, .ref p5]))] : va_W) ++ ([(p1, .inl (cy 21, 21, .inr (.inl (fun _ => 0))))] : va_W)) ++ ([(p2, .inl (cy 20, 21, .inl (fun _ => 0)))] : va_W)) ++ ((p3, .inl (cy 26, 21, .inr (.inr (.inr (.inr (fun i => if i < 21 then some (tt i) else none)))))) :: (List.range 21).map (fun i => (tt i, .inl (cy 21, 21, .inr (.inl (fun _ => 0))))))) ++ ([(p4, .inl (cy 21, 21, .inr (.inl (fun _ => 0))))] : va_W)) ++ ([(p5, .inl (cy 21, 21, .inr (.inl (fun _ => 0))))] : va_W))) : ac_S l D cy ad A 26 546 (d + 1) mX5_init 0 (lv_args 0 [.ref a]) [] w0 ([(a, .inr (5, [.null, .null, .null, .null, .null]))] : va_W) 0 0 Q := by
  show ac_S l D cy ad A 26 546 (d + 1) mX5_init 0 [(0, .ref a)] [] w0 ([(a, .inr (5, [.null, .null, .null, .null, .null]))] : va_W) 0 0 Q
  refine ac_aload_n (q := 0) dX5_init_0 rfl rfl ?_
  refine ac_obj dX5_init_1 kj_X5 (by decide) ?_
  refine ac_aload_n (q := 0) dX5_init_4 rfl rfl ?_
  refine ac_bipush (z := (21)) dX5_init_5 (by decide) ?_
  refine ac_newJ (N := 21) dX5_init_7 (by decide) (by decide) (by decide) (by decide) (by decide) (fun p1 => ?_)
  show ac_S l D cy ad A 26 546 (d + 1) mX5_init 9 [(0, .ref a)] [.ref p1, .ref a] w0 (([(a, .inr (5, [.null, .null, .null, .null, .null]))] : va_W) ++ ([(p1, .inl (cy 21, 21, .inr (.inl (fun _ => 0))))] : va_W)) 1 21 Q
  refine ac_putR (j := 0) dX5_init_9 kf_X5_9 rfl (Nat.le_of_ble_eq_true rfl) rfl rfl ?_
  show ac_S l D cy ad A 26 546 (d + 1) mX5_init 12 [(0, .ref a)] [] w0 (([(a, .inr (5, [.ref p1, .null, .null, .null, .null]))] : va_W) ++ ([(p1, .inl (cy 21, 21, .inr (.inl (fun _ => 0))))] : va_W)) 1 21 Q
  refine ac_aload_n (q := 0) dX5_init_12 rfl rfl ?_
  refine ac_bipush (z := (21)) dX5_init_13 (by decide) ?_
  refine ac_newI (N := 21) dX5_init_15 (by decide) (by decide) (by decide) (by decide) (by decide) (fun p2 => ?_)
  show ac_S l D cy ad A 26 546 (d + 1) mX5_init 17 [(0, .ref a)] [.ref p2, .ref a] w0 ((([(a, .inr (5, [.ref p1, .null, .null, .null, .null]))] : va_W) ++ ([(p1, .inl (cy 21, 21, .inr (.inl (fun _ => 0))))] : va_W)) ++ ([(p2, .inl (cy 20, 21, .inl (fun _ => 0)))] : va_W)) 2 42 Q
  refine ac_putR (j := 0) dX5_init_17 kf_X5_15 rfl (Nat.le_of_ble_eq_true rfl) rfl rfl ?_
  show ac_S l D cy ad A 26 546 (d + 1) mX5_init 20 [(0, .ref a)] [] w0 ((([(a, .inr (5, [.ref p1, .ref p2, .null, .null, .null]))] : va_W) ++ ([(p1, .inl (cy 21, 21, .inr (.inl (fun _ => 0))))] : va_W)) ++ ([(p2, .inl (cy 20, 21, .inl (fun _ => 0)))] : va_W)) 2 42 Q
  refine ac_aload_n (q := 0) dX5_init_20 rfl rfl ?_
  refine ac_bipush (z := (21)) dX5_init_21 (by decide) ?_
  refine ac_bipush (z := (21)) dX5_init_23 (by decide) ?_
  refine ac_mna (N := 21) (K9 := 21) dX5_init_25 kq_X5_19 (by decide) (by decide) (by decide) (by decide) (by decide) (by decide) (by decide) (by decide) (fun p3 tt => ?_)
  show ac_S l D cy ad A 26 546 (d + 1) mX5_init 29 [(0, .ref a)] [.ref p3, .ref a] w0 (((([(a, .inr (5, [.ref p1, .ref p2, .null, .null, .null]))] : va_W) ++ ([(p1, .inl (cy 21, 21, .inr (.inl (fun _ => 0))))] : va_W)) ++ ([(p2, .inl (cy 20, 21, .inl (fun _ => 0)))] : va_W)) ++ ((p3, .inl (cy 26, 21, .inr (.inr (.inr (.inr (fun i => if i < 21 then some (tt i) else none)))))) :: (List.range 21).map (fun i => (tt i, .inl (cy 21, 21, .inr (.inl (fun _ => 0))))))) 24 504 Q
  refine ac_putR (j := 0) dX5_init_29 kf_X5_21 rfl (Nat.le_of_ble_eq_true rfl) rfl rfl ?_
  show ac_S l D cy ad A 26 546 (d + 1) mX5_init 32 [(0, .ref a)] [] w0 (((([(a, .inr (5, [.ref p1, .ref p2, .ref p3, .null, .null]))] : va_W) ++ ([(p1, .inl (cy 21, 21, .inr (.inl (fun _ => 0))))] : va_W)) ++ ([(p2, .inl (cy 20, 21, .inl (fun _ => 0)))] : va_W)) ++ ((p3, .inl (cy 26, 21, .inr (.inr (.inr (.inr (fun i => if i < 21 then some (tt i) else none)))))) :: (List.range 21).map (fun i => (tt i, .inl (cy 21, 21, .inr (.inl (fun _ => 0))))))) 24 504 Q
  refine ac_aload_n (q := 0) dX5_init_32 rfl rfl ?_
  refine ac_bipush (z := (21)) dX5_init_33 (by decide) ?_
  refine ac_newJ (N := 21) dX5_init_35 (by decide) (by decide) (by decide) (by decide) (by decide) (fun p4 => ?_)
  show ac_S l D cy ad A 26 546 (d + 1) mX5_init 37 [(0, .ref a)] [.ref p4, .ref a] w0 ((((([(a, .inr (5, [.ref p1, .ref p2, .ref p3, .null, .null]))] : va_W) ++ ([(p1, .inl (cy 21, 21, .inr (.inl (fun _ => 0))))] : va_W)) ++ ([(p2, .inl (cy 20, 21, .inl (fun _ => 0)))] : va_W)) ++ ((p3, .inl (cy 26, 21, .inr (.inr (.inr (.inr (fun i => if i < 21 then some (tt i) else none)))))) :: (List.range 21).map (fun i => (tt i, .inl (cy 21, 21, .inr (.inl (fun _ => 0))))))) ++ ([(p4, .inl (cy 21, 21, .inr (.inl (fun _ => 0))))] : va_W)) 25 525 Q
  refine ac_putR (j := 0) dX5_init_37 kf_X5_24 rfl (Nat.le_of_ble_eq_true rfl) rfl rfl ?_
  show ac_S l D cy ad A 26 546 (d + 1) mX5_init 40 [(0, .ref a)] [] w0 ((((([(a, .inr (5, [.ref p1, .ref p2, .ref p3, .ref p4, .null]))] : va_W) ++ ([(p1, .inl (cy 21, 21, .inr (.inl (fun _ => 0))))] : va_W)) ++ ([(p2, .inl (cy 20, 21, .inl (fun _ => 0)))] : va_W)) ++ ((p3, .inl (cy 26, 21, .inr (.inr (.inr (.inr (fun i => if i < 21 then some (tt i) else none)))))) :: (List.range 21).map (fun i => (tt i, .inl (cy 21, 21, .inr (.inl (fun _ => 0))))))) ++ ([(p4, .inl (cy 21, 21, .inr (.inl (fun _ => 0))))] : va_W)) 25 525 Q
  refine ac_aload_n (q := 0) dX5_init_40 rfl rfl ?_
  refine ac_bipush (z := (21)) dX5_init_41 (by decide) ?_
  refine ac_newJ (N := 21) dX5_init_43 (by decide) (by decide) (by decide) (by decide) (by decide) (fun p5 => ?_)
  show ac_S l D cy ad A 26 546 (d + 1) mX5_init 45 [(0, .ref a)] [.ref p5, .ref a] w0 (((((([(a, .inr (5, [.ref p1, .ref p2, .ref p3, .ref p4, .null]))] : va_W) ++ ([(p1, .inl (cy 21, 21, .inr (.inl (fun _ => 0))))] : va_W)) ++ ([(p2, .inl (cy 20, 21, .inl (fun _ => 0)))] : va_W)) ++ ((p3, .inl (cy 26, 21, .inr (.inr (.inr (.inr (fun i => if i < 21 then some (tt i) else none)))))) :: (List.range 21).map (fun i => (tt i, .inl (cy 21, 21, .inr (.inl (fun _ => 0))))))) ++ ([(p4, .inl (cy 21, 21, .inr (.inl (fun _ => 0))))] : va_W)) ++ ([(p5, .inl (cy 21, 21, .inr (.inl (fun _ => 0))))] : va_W)) 26 546 Q
  refine ac_putR (j := 0) dX5_init_45 kf_X5_27 rfl (Nat.le_of_ble_eq_true rfl) rfl rfl ?_
  show ac_S l D cy ad A 26 546 (d + 1) mX5_init 48 [(0, .ref a)] [] w0 (((((([(a, .inr (5, [.ref p1, .ref p2, .ref p3, .ref p4, .ref p5]))] : va_W) ++ ([(p1, .inl (cy 21, 21, .inr (.inl (fun _ => 0))))] : va_W)) ++ ([(p2, .inl (cy 20, 21, .inl (fun _ => 0)))] : va_W)) ++ ((p3, .inl (cy 26, 21, .inr (.inr (.inr (.inr (fun i => if i < 21 then some (tt i) else none)))))) :: (List.range 21).map (fun i => (tt i, .inl (cy 21, 21, .inr (.inl (fun _ => 0))))))) ++ ([(p4, .inl (cy 21, 21, .inr (.inl (fun _ => 0))))] : va_W)) ++ ([(p5, .inl (cy 21, 21, .inr (.inl (fun _ => 0))))] : va_W)) 26 546 Q
  exact ac_vret dX5_init_48 rfl (by decide) (by decide) (K p1 p2 p3 tt p4 p5)
abbrev mX9_init : ab_M := (yX9_init, cX9_init, 2, none)
theorem ko_X9 : ab_ok mX9_init 0 := ⟨ab_inT1 (List.mem_of_getElem? (i := 167) (by decide +kernel)) (by decide +kernel), ab_inT1 (List.mem_of_getElem? (i := 7) (by decide +kernel)) (by decide +kernel), by decide +kernel, by decide +kernel, by decide +kernel, by decide +kernel, by decide +kernel⟩
theorem ki_X9 : Cond.instanceMethod mX9_init.1 ∈ ab_T := ab_inT1 (List.mem_of_getElem? (i := 166) (by decide +kernel)) (by decide +kernel)
theorem kj_X9 : Cond.methodLink RX9 3 objectInit ∈ ab_T := ab_inT1 (List.mem_of_getElem? (i := 168) (by decide +kernel)) (by decide +kernel)
theorem kf_X9_9 : ac_fl RX9 9 9 0 true (.array .int) := ⟨(RX9, TX9, 6), rfl, by decide, rfl, rfl, ab_inT1 (List.mem_of_getElem? (i := 169) (by decide +kernel)) (by decide +kernel), rfl, tyX9_ok 0 (by decide)⟩
theorem kf_X9_15 : ac_fl RX9 15 9 1 true (.array .int) := ⟨(RX9, TX9, 6), rfl, by decide, rfl, rfl, ab_inT1 (List.mem_of_getElem? (i := 170) (by decide +kernel)) (by decide +kernel), rfl, tyX9_ok 1 (by decide)⟩
def kst (i : Nat) : Nat → Int32 := fun j => if j < i then -1 else 0
theorem kst_0 : (fun _ => (0 : Int32)) = kst 0 := by funext j; unfold kst; rw [if_neg (Nat.not_lt_zero j)]
theorem kst_s {i : Nat} (h : i < 20) : upd (kst i) (nI i).toNatClampNeg (-1) = kst (i + 1) := by
  rw [nI_clamp (by omega)]
  funext j
  unfold upd kst
  by_cases e : j = i
  · rw [if_pos e, if_pos (by omega)]
  · rw [if_neg e]
    by_cases q : j < i
    · rw [if_pos q, if_pos (by omega)]
    · rw [if_neg q, if_neg (by omega)]
theorem lp_street {d a p1 p2 : Nat} (K : Q ((([(a, .inr (9, [.ref p1, .ref p2, .int 0, .int 0, .int 0, .int 0]))] : va_W) ++ ([(p1, .inl (cy 20, 20, .inl (kst 20)))] : va_W)) ++ ([(p2, .inl (cy 20, 20, .inl (kst 20)))] : va_W))) : ∀ (m i : Nat), 20 - i = m → i ≤ 20 → ac_S l D cy ad A 2 40 (d + 1) mX9_init 22 [(1, .int (nI i)), (0, .ref a)] [] w0 ((([(a, .inr (9, [.ref p1, .ref p2, .int 0, .int 0, .int 0, .int 0]))] : va_W) ++ ([(p1, .inl (cy 20, 20, .inl (kst i)))] : va_W)) ++ ([(p2, .inl (cy 20, 20, .inl (kst i)))] : va_W)) 2 40 Q := by
  intro m
  induction m with
  | zero =>
    intro i hm hi
    have e : i = 20 := by omega
    subst e
    refine ac_iload_n (q := 0) dX9_init_22 rfl rfl ?_
    refine ac_bipush (z := 20) dX9_init_23 (by decide) ?_
    refine ac_icmp_ge (tgt := 48) dX9_init_25 (by decide) (fun _ => ?_) (fun c => absurd (show (20 : Int32) ≤ nI 20 by decide) c)
    exact ac_vret dX9_init_48 rfl (by decide) (by decide) K
  | succ m ih =>
    intro i hm hi
    refine ac_iload_n (q := 0) dX9_init_22 rfl rfl ?_
    refine ac_bipush (z := 20) dX9_init_23 (by decide) ?_
    refine ac_icmp_ge (tgt := 48) dX9_init_25 (by decide) (fun c => absurd c (nI_ge (a := i) (b := 20) (by omega) (by decide))) (fun _ => ?_)
    refine ac_aload_n (q := 1) dX9_init_28 rfl rfl ?_
    refine ac_getf (j := 0) (v := .ref p1) dX9_init_29 kf_X9_9 rfl rfl ?_
    refine ac_iload_n (q := 0) dX9_init_32 rfl rfl ?_
    refine ac_iconst (z := (-1)) dX9_init_33 (by decide) ?_
    refine ac_iast (j := 1) dX9_init_34 rfl (nI_in (by omega) (by decide)) ?_
    refine ac_aload_n (q := 1) dX9_init_35 rfl rfl ?_
    refine ac_getf (j := 0) (v := .ref p2) dX9_init_36 kf_X9_15 rfl rfl ?_
    refine ac_iload_n (q := 0) dX9_init_39 rfl rfl ?_
    refine ac_iconst (z := (-1)) dX9_init_40 (by decide) ?_
    refine ac_iast (j := 2) dX9_init_41 rfl (nI_in (by omega) (by decide)) ?_
    rw [kst_s (by omega)]
    refine ac_iinc (q := 0) (y := nI (i + 1)) (ls' := [(1, .int (nI (i + 1))), (0, .ref a)]) dX9_init_42 rfl (nI_succ i).symm (by decide) rfl ?_
    refine ac_goto (tgt := 22) dX9_init_45 (by decide) ?_
    exact ih (i + 1) (by omega) (by omega)
theorem k_X9 {d a : Nat} (K : ∀ (p1 p2 : Nat), Q ((([(a, .inr (9, [.ref p1, .ref p2, .int 0, .int 0, .int 0, .int 0]))] : va_W) ++ ([(p1, .inl (cy 20, 20, .inl (kst 20)))] : va_W)) ++ ([(p2, .inl (cy 20, 20, .inl (kst 20)))] : va_W))) : ac_S l D cy ad A 2 40 (d + 1) mX9_init 0 (lv_args 0 [.ref a]) [] w0 ([(a, .inr (9, [.null, .null, .int 0, .int 0, .int 0, .int 0]))] : va_W) 0 0 Q := by
  show ac_S l D cy ad A 2 40 (d + 1) mX9_init 0 [(0, .ref a)] [] w0 ([(a, .inr (9, [.null, .null, .int 0, .int 0, .int 0, .int 0]))] : va_W) 0 0 Q
  refine ac_aload_n (q := 0) dX9_init_0 rfl rfl ?_
  refine ac_obj dX9_init_1 kj_X9 (by decide) ?_
  refine ac_aload_n (q := 0) dX9_init_4 rfl rfl ?_
  refine ac_bipush (z := (20)) dX9_init_5 (by decide) ?_
  refine ac_newI (N := 20) dX9_init_7 (by decide) (by decide) (by decide) (by decide) (by decide) (fun p1 => ?_)
  show ac_S l D cy ad A 2 40 (d + 1) mX9_init 9 [(0, .ref a)] [.ref p1, .ref a] w0 (([(a, .inr (9, [.null, .null, .int 0, .int 0, .int 0, .int 0]))] : va_W) ++ ([(p1, .inl (cy 20, 20, .inl (fun _ => 0)))] : va_W)) 1 20 Q
  refine ac_putR (j := 0) dX9_init_9 kf_X9_9 rfl (Nat.le_of_ble_eq_true rfl) rfl rfl ?_
  show ac_S l D cy ad A 2 40 (d + 1) mX9_init 12 [(0, .ref a)] [] w0 (([(a, .inr (9, [.ref p1, .null, .int 0, .int 0, .int 0, .int 0]))] : va_W) ++ ([(p1, .inl (cy 20, 20, .inl (fun _ => 0)))] : va_W)) 1 20 Q
  refine ac_aload_n (q := 0) dX9_init_12 rfl rfl ?_
  refine ac_bipush (z := (20)) dX9_init_13 (by decide) ?_
  refine ac_newI (N := 20) dX9_init_15 (by decide) (by decide) (by decide) (by decide) (by decide) (fun p2 => ?_)
  show ac_S l D cy ad A 2 40 (d + 1) mX9_init 17 [(0, .ref a)] [.ref p2, .ref a] w0 ((([(a, .inr (9, [.ref p1, .null, .int 0, .int 0, .int 0, .int 0]))] : va_W) ++ ([(p1, .inl (cy 20, 20, .inl (fun _ => 0)))] : va_W)) ++ ([(p2, .inl (cy 20, 20, .inl (fun _ => 0)))] : va_W)) 2 40 Q
  refine ac_putR (j := 0) dX9_init_17 kf_X9_15 rfl (Nat.le_of_ble_eq_true rfl) rfl rfl ?_
  show ac_S l D cy ad A 2 40 (d + 1) mX9_init 20 [(0, .ref a)] [] w0 ((([(a, .inr (9, [.ref p1, .ref p2, .int 0, .int 0, .int 0, .int 0]))] : va_W) ++ ([(p1, .inl (cy 20, 20, .inl (fun _ => 0)))] : va_W)) ++ ([(p2, .inl (cy 20, 20, .inl (fun _ => 0)))] : va_W)) 2 40 Q
  refine ac_iconst (z := 0) dX9_init_20 (by decide) ?_
  refine ac_istore_n (ls' := [(1, .int 0), (0, .ref a)]) dX9_init_21 rfl (by decide) rfl ?_
  rw [kst_0]
  exact lp_street (K p1 p2) 20 0 rfl (by omega)
end CTR
