/-! MAKING: constructors over a growing list of cells. The section on new T[n][m] is NAMES.whole's own. -/
def va_AOA (t : FieldType) (U : State) : Prop := (Cond.arrayOver (.array t)).before #[] U = true
theorem va_AOA.use {t : FieldType} {A : Array Value} {U : State} (h : va_AOA t U) : (Cond.arrayOver (.array t)).before A U = true := h
theorem va_AOA.moved {t : FieldType} {u U : State} (hvm : u.vm.Alike U.vm) (h : va_AOA t u) : va_AOA t U := over_moved (a := #[]) (a' := #[]) hvm h
/-! ===== BEGIN new T[n][m]: the outer array a place, the inner ones among the pooled ===== -/
/-- f, but v at every address of l -/
def vr_up {α : Type} (f : Nat → α) (l : List Nat) (v : α) : Nat → α := fun a => if a ∈ l then v else f a
theorem vr_up_in {α : Type} {f : Nat → α} {l : List Nat} {v : α} {a : Nat} (h : a ∈ l) : vr_up f l v a = v := if_pos h
theorem vr_up_ne {α : Type} {f : Nat → α} {l : List Nat} {v : α} {a : Nat} (h : a ∉ l) : vr_up f l v a = f a := if_neg h
theorem vr_rows {L l : List Nat} {f : Nat → va_E} {e : va_E} (h : ∀ a, a ∈ l → a ∉ L) : va_pl L f ++ l.map (fun a => (a, e)) = va_pl (L ++ l) (vr_up f l e) := by
  unfold va_pl
  rw [List.map_append]
  congr 1
  · apply List.map_congr_left
    intro a ha
    rw [vr_up_ne (fun q => h a q ha)]
  · apply List.map_congr_left
    intro a ha
    rw [vr_up_in ha]
theorem vr_lay {X rows : va_W} {x : Nat × va_E} {pl : va_W} {D : va_G} {cl : List vw_C} {H : Heap} (hP : va_P D cl (((X ++ pl) ++ [x]) ++ rows) H) : va_P D cl ((X ++ [x]) ++ (pl ++ rows)) H := by
  rw [List.append_assoc (X ++ pl)] at hP
  have h := va_P.swap hP
  rw [← List.append_assoc X] at h
  have h2 := va_P.swap h
  rw [List.append_assoc (X ++ [x])] at h2
  exact h2
theorem vr_layD {X rows : va_W} {x : Nat × va_E} {pl : va_W} {A : Nat → Prop} (hD : va_D A (((X ++ pl) ++ [x]) ++ rows)) : va_D A ((X ++ [x]) ++ (pl ++ rows)) := by
  rw [List.append_assoc (X ++ pl)] at hD
  have h := va_D.swap hD
  rw [← List.append_assoc X] at h
  have h2 := va_D.swap h
  rw [List.append_assoc (X ++ [x])] at h2
  exact h2
theorem vr_outer (c : ClassId) (N h0 : Nat) : ∀ i : Nat, Jvm.Free.Multi.outerC c N h0 i = arrV c N (fun j => va_rf (if j < i then some (h0 + 1 + j) else none))
  | 0 => by
    show ({ cls := c, slots := Array.replicate N .null, vm := .none } : Cell) = _
    rw [arrV_new]
    refine congrArg (arrV c N) (funext fun j => ?_)
    simp [va_rf]
  | i + 1 => by
    show (Jvm.Free.Multi.outerC c N h0 i).setSlot i (.ref (h0 + 1 + i)) = _
    rw [vr_outer c N h0 i, arrV_store]
    refine congrArg (arrV c N) (funext fun j => ?_)
    by_cases e : j = i
    · subst e
      simp [updV, va_rf]
    · by_cases h : j < i
      · simp [updV, e, h, Nat.lt_succ_of_lt h]
      · simp [updV, e, h, show ¬ j < i + 1 by omega]
section VGM
variable {p : Program} {l : Launch} {e : Env} {R : Room} {s : State} {m : MethodId} {args : Array Value} {below : List Frame} {meth : Method} {c : Code} {H : Heap} {locs : List Loc} {cells slots : Nat} {Q : State → Prop}
variable {cc : ByteArray} {pc : Nat} {ls : Array Slot} {rest : List Value} {D : va_G} {cl : List vw_C} {A : Nat → Prop} {a : Nat} {tys : List (ClassId × FieldType)} {ws : va_W} {H0 : Heap}
theorem va_mna {X : va_W} {L : List Nat} {f : Nat → va_E} {cc : ByteArray} (hexec : p.tables.exec = Jvm.exec) (hb : c.code = cc) {own : String} {index : Nat} {ty : FieldType} {cy : ClassId} (hown : s.vm.findClass own = some m.cls) (hclink : (Cond.classLink own index ("[" ++ (FieldType.array ty).toString)).before args s = true) (hover : va_AOA ty s) (harr : (Cond.arrayClass ty).before args s = true) (hcy : s.vm.findClass (FieldType.array ty).toString = some cy)
    (hK : va_K D cl tys s) (hP : va_P D cl (X ++ va_pl L f) H) (hD : va_D A (X ++ va_pl L f)) (hS : va_S A H0 H locs) (hA : ∀ q, H0.size ≤ q → A q) {n k : Int32} {N' K' : Nat} {z : vp_A} (hn : ¬ n < 0) (hk : ¬ k < 0) (hN : n.toNatClampNeg = N') (hM : k.toNatClampNeg = K')
    (hb1 : N' * 4 ≤ 536870912) (hb2 : K' * componentBytes ty ≤ 536870912) (hb3 : K' ≤ 536870912) (hdf : fits ty (defaultValue ty) = true) (hdd : (defaultValue ty).isDefault = true) (hcells : cells + (1 + N') ≤ R.cells) (hslots : slots + (N' + N' * K') ≤ R.slots) (hz : ∀ c : ClassId, Jvm.Free.Multi.innerC c K' (defaultValue ty) = vp_cell c z) (hdg : decode cc pc = .ok (.multianewarray index 2, 4))
    (kk : ∀ (q : Nat) (r : Nat → Nat) (cA : ClassId) (H1 : Heap), (∀ i j : Nat, i < N' → j < N' → r i = r j → i = j) → (∀ i : Nat, i < N' → r i ∉ L) → va_K D cl (tys ++ [(cA, .array ty)]) s →
      va_P D cl ((X ++ [(q, .inl (cA, N', .inr (.inr (.inr (.inr (fun i => if i < N' then some (r i) else none))))))]) ++ va_pl (L ++ (List.range N').map r) (vr_up f ((List.range N').map r) (.inl (cy, z)))) H1 → va_D A ((X ++ [(q, .inl (cA, N', .inr (.inr (.inr (.inr (fun i => if i < N' then some (r i) else none))))))]) ++ va_pl (L ++ (List.range N').map r) (vr_up f ((List.range N').map r) (.inl (cy, z)))) → va_S A H0 H1 locs →
      W p l e R s m args below meth c H1 locs (cells + 1 + N') (slots + N' + N' * K') Q (F0 m (pc + 4) ls (.ref q :: rest))) : W p l e R s m args below meth c H locs cells slots Q (F0 m pc ls (.int k :: .int n :: rest)) := by
  subst hN
  subst hM
  intro T hT Xs
  obtain ⟨vm₁, cA, comp, -, fA, fC, hO, -, X', step⟩ := Xs.multianewarray2F hexec hown hclink (va_AOA.use hover) harr (g := F0 m pc ls (.int k :: .int n :: rest)) rfl (by rw [hb]; exact hdg) rfl hn hk hb1 hb2 hb3 hdf hdd hcells hslots
  have ec : some cy = some comp := hcy.symm.trans fC
  cases ec
  generalize hF : Jvm.Free.Multi.fill (T.setVm vm₁) cA cy n.toNatClampNeg k.toNatClampNeg (defaultValue ty) n.toNatClampNeg = F at X' step
  have hTh : (T.setVm vm₁).heap = H := hT
  obtain ⟨f1, f2, -, -⟩ := Jvm.Free.Multi.fill_facts (T.setVm vm₁) cA cy n.toNatClampNeg k.toNatClampNeg (defaultValue ty) n.toNatClampNeg
  rw [hF, hTh] at f1 f2
  have hold : ∀ x : Nat, x < H.size → F.heap[x]? = H[x]? := fun x hx => by
    have := Jvm.Free.Multi.fill_old (T.setVm vm₁) cA cy n.toNatClampNeg k.toNatClampNeg (defaultValue ty) (a := x) (by rw [hTh]; exact hx) n.toNatClampNeg
    rw [hF, hTh] at this
    exact this
  have hrow : ∀ j : Nat, j < n.toNatClampNeg → F.heap[H.size + 1 + j]? = some (vp_cell cy z) := fun j hj => by
    have := Jvm.Free.Multi.fill_inner (T.setVm vm₁) cA cy n.toNatClampNeg k.toNatClampNeg (defaultValue ty) n.toNatClampNeg j hj
    rw [hF, hTh, hz] at this
    exact this
  have hout : Jvm.Free.Multi.outerC cA n.toNatClampNeg H.size n.toNatClampNeg = vp_cell cA (n.toNatClampNeg, .inr (.inr (.inr (.inr (fun i => if i < n.toNatClampNeg then some (H.size + 1 + i) else none))))) := by
    rw [vp_cell_q]
    exact vr_outer cA n.toNatClampNeg H.size n.toNatClampNeg
  rw [hout] at f2
  have hlt : ∀ a, a ∈ L → a < H.size := fun a ha => by
    obtain ⟨k9, hk9⟩ := va_pl_get (X := X) (f := f) ha
    exact (hP k9 _ hk9).lt
  have hnl : ∀ i : Nat, i < n.toNatClampNeg → H.size + 1 + i ∉ L := fun i _ h => by
    have := hlt _ h
    omega
  have hnm : ∀ a, a ∈ (List.range n.toNatClampNeg).map (fun i => H.size + 1 + i) → a ∉ L := fun a ha h => by
    obtain ⟨i, -, rfl⟩ := List.mem_map.mp ha
    have := hlt _ h
    omega
  have hP0 : va_P D cl (X ++ va_pl L f) F.heap := hP.kept (fun k9 x hx => hold x.1 ((hP k9 x hx).lt))
  have hP1 : va_P D cl ((X ++ va_pl L f) ++ [(H.size, .inl (cA, n.toNatClampNeg, .inr (.inr (.inr (.inr (fun i => if i < n.toNatClampNeg then some (H.size + 1 + i) else none))))))]) F.heap := hP0.app (fun k9 x hx => by
    have h0 : k9 < 1 := (List.getElem?_eq_some_iff.mp hx).1
    rw [show k9 = 0 by omega] at hx
    cases hx
    exact f2)
  have hP2 : va_P D cl (((X ++ va_pl L f) ++ [(H.size, .inl (cA, n.toNatClampNeg, .inr (.inr (.inr (.inr (fun i => if i < n.toNatClampNeg then some (H.size + 1 + i) else none))))))]) ++ ((List.range n.toNatClampNeg).map (fun i => H.size + 1 + i)).map (fun a => (a, .inl (cy, z)))) F.heap := hP1.app (fun k9 x hx => by
    obtain ⟨a, ha, rfl⟩ := List.mem_map.mp (List.mem_of_getElem? hx)
    obtain ⟨i, hi, rfl⟩ := List.mem_map.mp ha
    exact hrow i (List.mem_range.mp hi))
  have hD2 : va_D A (((X ++ va_pl L f) ++ [(H.size, .inl (cA, n.toNatClampNeg, .inr (.inr (.inr (.inr (fun i => if i < n.toNatClampNeg then some (H.size + 1 + i) else none))))))]) ++ ((List.range n.toNatClampNeg).map (fun i => H.size + 1 + i)).map (fun a => (a, .inl (cy, z)))) := by
    have hD1 := hD.push (e := .inl (cA, n.toNatClampNeg, .inr (.inr (.inr (.inr (fun i => if i < n.toNatClampNeg then some (H.size + 1 + i) else none)))))) hP rfl (hA _ hS.1)
    generalize hW1 : (X ++ va_pl L f) ++ [(H.size, .inl (cA, n.toNatClampNeg, .inr (.inr (.inr (.inr (fun i => if i < n.toNatClampNeg then some (H.size + 1 + i) else none))))))] = W1 at hD1 hP1 ⊢
    have hle : ∀ (k9 : Nat) (x : Nat × va_E), W1[k9]? = some x → x.1 ≤ H.size := fun k9 x hx => by
      rw [← hW1] at hx
      by_cases hl : k9 < (X ++ va_pl L f).length
      · rw [List.getElem?_append_left hl] at hx
        exact Nat.le_of_lt ((hP k9 x hx).lt)
      · rw [List.getElem?_append_right (by omega)] at hx
        have h0 : k9 - (X ++ va_pl L f).length < 1 := (List.getElem?_eq_some_iff.mp hx).1
        rw [show k9 - (X ++ va_pl L f).length = 0 by omega] at hx
        cases hx
        exact Nat.le_refl _
    have hr : ∀ (k9 : Nat) (x : Nat × va_E), (((List.range n.toNatClampNeg).map (fun i => H.size + 1 + i)).map (fun a => ((a, .inl (cy, z)) : Nat × va_E)))[k9]? = some x → x.1 = H.size + 1 + k9 := fun k9 x hx => by
      rw [List.getElem?_map, List.getElem?_map] at hx
      by_cases h9 : k9 < n.toNatClampNeg
      · rw [List.getElem?_range h9] at hx
        cases hx
        rfl
      · have hn0 : (List.range n.toNatClampNeg)[k9]? = none := List.getElem?_eq_none (by rw [List.length_range]; omega)
        rw [hn0] at hx
        cases hx
    refine ⟨fun i j x y hi hj hxy => ?_, fun k9 x hx => ?_⟩
    · by_cases h1 : i < W1.length <;> by_cases h2 : j < W1.length
      · rw [List.getElem?_append_left h1] at hi
        rw [List.getElem?_append_left h2] at hj
        exact hD1.1 i j x y hi hj hxy
      · rw [List.getElem?_append_left h1] at hi
        rw [List.getElem?_append_right (by omega)] at hj
        have := hle _ _ hi
        have := hr _ _ hj
        omega
      · rw [List.getElem?_append_right (by omega)] at hi
        rw [List.getElem?_append_left h2] at hj
        have := hle _ _ hj
        have := hr _ _ hi
        omega
      · rw [List.getElem?_append_right (by omega)] at hi hj
        have := hr _ _ hi
        have := hr _ _ hj
        omega
    · by_cases h1 : k9 < W1.length
      · rw [List.getElem?_append_left h1] at hx
        exact hD1.2 k9 x hx
      · rw [List.getElem?_append_right (by omega)] at hx
        have := hr _ _ hx
        exact hA _ (by have := hS.1; omega)
  have hAr : ArrOfT s cA (.array ty) := fun N9 z9 => by
    obtain ⟨-, k9, hk9, cm9, hkk9⟩ := (hO 0 0 0).1
    exact ⟨(fun q hq => by cases hq), k9, hk9, cm9, hkk9⟩
  have hK2 : va_K D cl (tys ++ [(cA, .array ty)]) s := ⟨hK.1, fun k9 x hx => by
    by_cases hl : k9 < tys.length
    · rw [List.getElem?_append_left hl] at hx
      exact hK.2 k9 x hx
    · rw [List.getElem?_append_right (by omega)] at hx
      have h0 : k9 - tys.length < 1 := (List.getElem?_eq_some_iff.mp hx).1
      rw [show k9 - tys.length = 0 by omega] at hx
      cases hx
      exact ⟨hAr, fA⟩⟩
  obtain ⟨t, a1, b1⟩ := kk H.size (fun i => H.size + 1 + i) cA F.heap (fun i j _ _ h => by have h9 : H.size + 1 + i = H.size + 1 + j := h; omega) hnl hK2 (by rw [← vr_rows hnm]; exact vr_lay hP2) (by rw [← vr_rows hnm]; exact vr_layD hD2) ⟨by rw [f1]; have := hS.1; omega, fun x h1 h2 => (hold x (Nat.lt_of_lt_of_le h1 hS.1)).trans (hS.2.1 x h1 h2), hS.2.2⟩ F rfl X'
  refine ⟨t, step t ?_, b1⟩
  have e : T.heap.size = H.size := by rw [hT]
  rw [e]
  exact a1
end VGM

section MAK
variable {l : Launch} {D : va_G} {cy : Nat → ClassId} {ad : Nat → Nat} {A : Nat → Prop}
def ac_C (D : va_G) (cy : Nat → ClassId) (ad : Nat → Nat) (A : Nat → Prop) (mc ms d : Nat) (M : ab_M) (p : Program) (R : Room) (s : State) (m : MethodId) (args : Array Value) (meth : Method) (c : Code) : Prop :=
  ab_C D cy ad A d M p R s m args meth c ∧ meth.name = "<init>" ∧ mc ≤ R.cells ∧ ms ≤ R.slots ∧ (∀ q, s.heap.size ≤ q → A q) ∧ va_AO "KerbSide$Rule" s ∧ va_AO "KerbSide$Street" s ∧ va_AOA .long s
def ac_Qc (D : va_G) (A : Nat → Prop) (w0 : va_W) (Q : va_W → Prop) : Array Value → State → Outcome → State → Prop := fun _ st oc t =>
  (oc = .returned none ∧ ∃ xs : va_W, Q xs ∧ va_P D vwCl (w0 ++ xs) t.heap ∧ va_D A (w0 ++ xs)) ∧ va_F A st t
def ac_S (l : Launch) (D : va_G) (cy : Nat → ClassId) (ad : Nat → Nat) (A : Nat → Prop) (mc ms d : Nat) (M : ab_M) (pc : Nat) (ls : ab_L) (st : List Value) (w0 xs : va_W) (k n : Nat) (Q : va_W → Prop) : Prop :=
  ∀ (p : Program) (e : Env) (R : Room) (s : State) (m : MethodId) (args : Array Value) (below : List Frame) (meth : Method) (c : Code) (H : Heap) (locs : List Loc) (lsA : Array Slot),
    ac_C D cy ad A mc ms d M p R s m args meth c → va_P D vwCl (w0 ++ xs) H → va_D A (w0 ++ xs) → va_S A s.heap H locs → lv_has lsA M.2.2.1 ls →
    W p l e R s m args below meth c H locs k n (MQ below (ac_Qc D A w0 Q) args s mc ms A) (F0 m pc lsA st)
variable {mc ms d : Nat} {M : ab_M} {pc : Nat} {ls : ab_L} {st : List Value} {w0 xs : va_W} {k n : Nat} {Q : va_W → Prop}
theorem ac_get {w0 xs : va_W} {j : Nat} {x : Nat × va_E} (h : xs[j]? = some x) : (w0 ++ xs)[w0.length + j]? = some x := by
  rw [List.getElem?_append_right (by omega), show w0.length + j - w0.length = j by omega]; exact h
theorem ac_set {w0 xs : va_W} {j : Nat} {x : Nat × va_E} : (w0 ++ xs).set (w0.length + j) x = w0 ++ xs.set j x := by
  rw [List.set_append_right _ _ (by omega), show w0.length + j - w0.length = j by omega]
theorem ac_iconst {v : Int} {z : Int32} (hd : decode M.2.1 pc = .ok (.iconst v, 1)) (hv : Int32.ofInt v = z) (kk : ac_S l D cy ad A mc ms d M (pc + 1) ls (.int z :: st) w0 xs k n Q) : ac_S l D cy ad A mc ms d M pc ls st w0 xs k n Q := by
  intro p e R s m args below meth c H locs lsA C hP hD hS hls
  obtain ⟨⟨hx, hb, hml, hr, hown, hts, hlk, hfr, hlo, hK⟩, hin, hmc, hms, hA, o1, o2, o3⟩ := id C
  exact lv_iconst hx hb hd hv (kk p e R s m args below meth c H locs lsA C hP hD hS hls)
theorem ac_bipush {v : Int} {z : Int32} (hd : decode M.2.1 pc = .ok (.bipush v, 2)) (hv : (Int8.ofInt v).toInt32 = z) (kk : ac_S l D cy ad A mc ms d M (pc + 2) ls (.int z :: st) w0 xs k n Q) : ac_S l D cy ad A mc ms d M pc ls st w0 xs k n Q := by
  intro p e R s m args below meth c H locs lsA C hP hD hS hls
  obtain ⟨⟨hx, hb, hml, hr, hown, hts, hlk, hfr, hlo, hK⟩, hin, hmc, hms, hA, o1, o2, o3⟩ := id C
  exact lv_bipush hx hb hd hv (kk p e R s m args below meth c H locs lsA C hP hD hS hls)
theorem ac_sipush {v : Int} {z : Int32} (hd : decode M.2.1 pc = .ok (.sipush v, 3)) (hv : (Int16.ofInt v).toInt32 = z) (kk : ac_S l D cy ad A mc ms d M (pc + 3) ls (.int z :: st) w0 xs k n Q) : ac_S l D cy ad A mc ms d M pc ls st w0 xs k n Q := by
  intro p e R s m args below meth c H locs lsA C hP hD hS hls
  obtain ⟨⟨hx, hb, hml, hr, hown, hts, hlk, hfr, hlo, hK⟩, hin, hmc, hms, hA, o1, o2, o3⟩ := id C
  exact lv_sipush hx hb hd hv (kk p e R s m args below meth c H locs lsA C hP hD hS hls)
theorem ac_ldcs {i j : Nat} (hd : decode M.2.1 pc = .ok (.ldc i, 2)) (hv : (M.1.cls, i, j) ∈ ab_sites) (kk : ac_S l D cy ad A mc ms d M (pc + 2) ls (.ref (ad (2000 + j)) :: st) w0 xs k n Q) : ac_S l D cy ad A mc ms d M pc ls st w0 xs k n Q := by
  intro p e R s m args below meth c H locs lsA C hP hD hS hls
  obtain ⟨⟨hx, hb, hml, hr, hown, hts, hlk, hfr, hlo, hK⟩, hin, hmc, hms, hA, o1, o2, o3⟩ := id C
  exact va_ldcS hx hb hown (hK.2.2.2.2.1 _ hv) hd (kk p e R s m args below meth c H locs lsA C hP hD hS hls)
theorem ac_aload_n {j : Fin 4} {i q x : Nat} (hd : decode M.2.1 pc = .ok (.aload_n j, 1)) (hi : (j : Nat) = i) (hl : ls[q]? = some (i, .ref x)) (kk : ac_S l D cy ad A mc ms d M (pc + 1) ls (.ref x :: st) w0 xs k n Q) : ac_S l D cy ad A mc ms d M pc ls st w0 xs k n Q := by
  intro p e R s m args below meth c H locs lsA C hP hD hS hls
  obtain ⟨⟨hx, hb, hml, hr, hown, hts, hlk, hfr, hlo, hK⟩, hin, hmc, hms, hA, o1, o2, o3⟩ := id C
  exact lv_aload_n hx hb hd hi (lv_at hls q hl) (kk p e R s m args below meth c H locs lsA C hP hD hS hls)
theorem ac_iload_n {j : Fin 4} {i q : Nat} {x : Int32} (hd : decode M.2.1 pc = .ok (.iload_n j, 1)) (hi : (j : Nat) = i) (hl : ls[q]? = some (i, .int x)) (kk : ac_S l D cy ad A mc ms d M (pc + 1) ls (.int x :: st) w0 xs k n Q) : ac_S l D cy ad A mc ms d M pc ls st w0 xs k n Q := by
  intro p e R s m args below meth c H locs lsA C hP hD hS hls
  obtain ⟨⟨hx, hb, hml, hr, hown, hts, hlk, hfr, hlo, hK⟩, hin, hmc, hms, hA, o1, o2, o3⟩ := id C
  exact lv_iload_n hx hb hd hi (lv_at hls q hl) (kk p e R s m args below meth c H locs lsA C hP hD hS hls)
theorem ac_istore_n {j : Fin 4} {i : Nat} {x : Int32} {ls' : ab_L} (hd : decode M.2.1 pc = .ok (.istore_n j, 1)) (hi : (j : Nat) = i) (hn : i < M.2.2.1) (hl : ab_st1 i (.int x) ls = ls') (kk : ac_S l D cy ad A mc ms d M (pc + 1) ls' st w0 xs k n Q) : ac_S l D cy ad A mc ms d M pc ls (.int x :: st) w0 xs k n Q := by
  intro p e R s m args below meth c H locs lsA C hP hD hS hls
  obtain ⟨⟨hx, hb, hml, hr, hown, hts, hlk, hfr, hlo, hK⟩, hin, hmc, hms, hA, o1, o2, o3⟩ := id C
  subst hl
  exact lv_istore_n hx hb hd hi hls hn rfl (fun ls' hl' => kk p e R s m args below meth c H locs ls' C hP hD hS hl')
theorem ac_iinc {i q : Nat} {v : Int} {x y : Int32} {ls' : ab_L} (hd : decode M.2.1 pc = .ok (.iinc i v, 3)) (hk : ls[q]? = some (i, .int x)) (hv : x + Int32.ofInt v = y) (hn : i < M.2.2.1) (hl : ab_st1 i (.int y) ls = ls') (kk : ac_S l D cy ad A mc ms d M (pc + 3) ls' st w0 xs k n Q) : ac_S l D cy ad A mc ms d M pc ls st w0 xs k n Q := by
  intro p e R s m args below meth c H locs lsA C hP hD hS hls
  obtain ⟨⟨hx, hb, hml, hr, hown, hts, hlk, hfr, hlo, hK⟩, hin, hmc, hms, hA, o1, o2, o3⟩ := id C
  subst hl
  exact lv_iinc hx hb hd hls hk hv hn rfl (fun ls' hl' => kk p e R s m args below meth c H locs ls' C hP hD hS hl')
theorem ac_dup {v : Value} (hd : decode M.2.1 pc = .ok (.dup, 1)) (hc : v.category = 1) (kk : ac_S l D cy ad A mc ms d M (pc + 1) ls (v :: v :: st) w0 xs k n Q) : ac_S l D cy ad A mc ms d M pc ls (v :: st) w0 xs k n Q := by
  intro p e R s m args below meth c H locs lsA C hP hD hS hls
  obtain ⟨⟨hx, hb, hml, hr, hown, hts, hlk, hfr, hlo, hK⟩, hin, hmc, hms, hA, o1, o2, o3⟩ := id C
  exact lv_dup hx hb hd hc (kk p e R s m args below meth c H locs lsA C hP hD hS hls)
theorem ac_goto {off : Int} {tgt : Nat} (hd : decode M.2.1 pc = .ok (.goto off, 3)) (ht : (pc : Int) + off = (tgt : Int)) (kk : ac_S l D cy ad A mc ms d M tgt ls st w0 xs k n Q) : ac_S l D cy ad A mc ms d M pc ls st w0 xs k n Q := by
  intro p e R s m args below meth c H locs lsA C hP hD hS hls
  obtain ⟨⟨hx, hb, hml, hr, hown, hts, hlk, hfr, hlo, hK⟩, hin, hmc, hms, hA, o1, o2, o3⟩ := id C
  exact lv_goto hx hb hd ht (kk p e R s m args below meth c H locs lsA C hP hD hS hls)
theorem ac_icmp_ge {x y : Int32} {off : Int} {tgt : Nat} (hd : decode M.2.1 pc = .ok (.if_icmp .ge off, 3)) (ht : (pc : Int) + off = (tgt : Int)) (k1 : y ≤ x → ac_S l D cy ad A mc ms d M tgt ls st w0 xs k n Q) (k2 : ¬ y ≤ x → ac_S l D cy ad A mc ms d M (pc + 3) ls st w0 xs k n Q) : ac_S l D cy ad A mc ms d M pc ls (.int y :: .int x :: st) w0 xs k n Q := by
  intro p e R s m args below meth c H locs lsA C hP hD hS hls
  obtain ⟨⟨hx, hb, hml, hr, hown, hts, hlk, hfr, hlo, hK⟩, hin, hmc, hms, hA, o1, o2, o3⟩ := id C
  exact lv_icmp_ge hx hb hd ht (fun q => k1 q p e R s m args below meth c H locs lsA C hP hD hS hls) (fun q => k2 q p e R s m args below meth c H locs lsA C hP hD hS hls)
theorem ac_oi : Cond.instanceMethod objectInit ∈ ab_T := ab_inT1 (List.mem_of_getElem? (i := 30) (by decide +kernel)) (by decide +kernel)
theorem ac_oc : Cond.code objectInit ⟨#[0xb1]⟩ 1 none ∈ ab_T := ab_inT1 (List.mem_of_getElem? (i := 31) (by decide +kernel)) (by decide +kernel)
theorem ac_obj {i a : Nat} (hd : decode M.2.1 pc = .ok (.invokespecial i, 3)) (hl : Cond.methodLink M.1.cls i objectInit ∈ ab_T) (hw : ab_cat st ≤ 8) (kk : ac_S l D cy ad A mc ms (d + 1) M (pc + 3) ls st w0 xs k n Q) : ac_S l D cy ad A mc ms (d + 1) M pc ls (.ref a :: st) w0 xs k n Q := by
  intro p e R s m args below meth c H locs lsA C hP hD hS hls
  obtain ⟨⟨hx, hb, hml, hr, hown, hts, hlk, hfr, hlo, hK⟩, hin, hmc, hms, hA, o1, o2, o3⟩ := id C
  refine W.objInit hx hb hown (hts _ hl) (hts _ ac_oi) (hts _ ac_oc) rfl (hls.1.trans hml.symm) rfl hd (by omega) ?_ (kk p e R s m args below meth c H locs lsA C hP hD hS hls)
  show 2 * 0 + ab_cat st + 12 ≤ R.locals
  omega
theorem ac_vret  (hd : decode M.2.1 pc = .ok (.return_, 1)) (hq0 : M.2.2.2 = none) (h1 : k ≤ mc) (h2 : n ≤ ms) (hq : Q xs) : ac_S l D cy ad A mc ms d M pc ls [] w0 xs k n Q := by
  intro p e R s m args below meth c H locs lsA C hP hD hS hls
  obtain ⟨⟨hx, hb, hml, hr, hown, hts, hlk, hfr, hlo, hK⟩, hin, hmc, hms, hA, o1, o2, o3⟩ := id C
  exact W.widen h1 h2 (W.vret hx hb (hr.trans hq0) (fun t ht _ => ⟨⟨rfl, xs, hq, by rw [ht]; exact hP, hD⟩, hS.F ht⟩) hS.2.2 hd hlk)
theorem ac_sub {ls' : ab_L} {ks : List Nat} (hl : lv_pick ls ks = ls') (kk : ac_S l D cy ad A mc ms d M pc ls' st w0 xs k n Q) : ac_S l D cy ad A mc ms d M pc ls st w0 xs k n Q := by
  intro p e R s m args below meth c H locs lsA C hP hD hS hls
  obtain ⟨⟨hx, hb, hml, hr, hown, hts, hlk, hfr, hlo, hK⟩, hin, hmc, hms, hA, o1, o2, o3⟩ := id C
  exact kk p e R s m args below meth c H locs lsA C hP hD hS (lv_sub hls ks hl)
/-- a field of the own class: where it links, what it is -/
def ac_fl (own : String) (i ci kf : Nat) (fin : Bool) (ty : FieldType) : Prop := ∃ q : vw_C, vwCl[ci]? = some q ∧ kf < q.2.2 ∧ q.1 = own ∧ (q.2.1 kf).1 = own ∧ Cond.fieldLink own i own (q.2.1 kf).2.1 (q.2.1 kf).2.2.1 ∈ ab_T ∧ (q.2.1 kf).2.2.2 = fin ∧ parseFieldDescriptor (q.2.1 kf).2.2.1 = some ty
theorem ac_getf {i ci kf a j : Nat} {fin : Bool} {ty : FieldType} {fs : List Value} {v : Value} (hd : decode M.2.1 pc = .ok (.getfield i, 3)) (hf : ac_fl M.1.cls i ci kf fin ty) (he : xs[j]? = some (a, .inr (ci, fs))) (hv : fs[kf]? = some v) (kk : ac_S l D cy ad A mc ms d M (pc + 3) ls (v :: st) w0 xs k n Q) : ac_S l D cy ad A mc ms d M pc ls (.ref a :: st) w0 xs k n Q := by
  intro p e R s m args below meth c H locs lsA C hP hD hS hls
  obtain ⟨⟨hx, hb, hml, hr, hown, hts, hlk, hfr, hlo, hK⟩, hin, hmc, hms, hA, o1, o2, o3⟩ := id C
  obtain ⟨q, hq, hk, hC, hC2, hw, -⟩ := hf
  exact va_get hx hb hts (ab_lay ci q hq) hown hK.1 hP _ (ac_get he) hq kf hk (hts _ hw) (fun x hx' => by rw [hC2] at hx'; exact hx') hv hd (kk p e R s m args below meth c H locs lsA C hP hD hS hls)
theorem ac_putR {i ci kf a j v : Nat} {ty : FieldType} {fs : List Value} (hd : decode M.2.1 pc = .ok (.putfield i, 3)) (hf : ac_fl M.1.cls i ci kf true ty) (he : xs[j]? = some (a, .inr (ci, fs))) (hl : kf < fs.length) (n1 : narrow ty (.ref v) = .ref v) (n2 : fits ty (.ref v) = true) (kk : ac_S l D cy ad A mc ms d M (pc + 3) ls st w0 (xs.set j (a, .inr (ci, fs.set kf (.ref v)))) k n Q) : ac_S l D cy ad A mc ms d M pc ls (.ref v :: .ref a :: st) w0 xs k n Q := by
  intro p e R s m args below meth c H locs lsA C hP hD hS hls
  obtain ⟨⟨hx, hb, hml, hr, hown, hts, hlk, hfr, hlo, hK⟩, hin, hmc, hms, hA, o1, o2, o3⟩ := id C
  obtain ⟨q, hq, hk, hC, hC2, hw, hfin, hpt⟩ := hf
  obtain ⟨⟨t0, hty0⟩, hnm⟩ := ab_tyx ci q hq
  refine va_putF hx hb hts (ab_lay ci q hq) t0 hty0 hnm hown hK.1 hP hD hS _ (ac_get he) hq kf hk (hts _ hw) (fun x hx' => by rw [hC2] at hx'; exact hx') hfin hin hC2 hpt n1 n2 hl hd (fun H1 locs1 gP gD gS => ?_)
  rw [ac_set] at gP gD
  exact kk p e R s m args below meth c H1 locs1 lsA C gP gD gS hls
theorem ac_putQ {i ci kf a j v : Nat} {ty : FieldType} {fs : List Value} (hd : decode M.2.1 pc = .ok (.putfield i, 3)) (hf : ac_fl M.1.cls i ci kf false ty) (he : xs[j]? = some (a, .inr (ci, fs))) (hl : kf < fs.length) (n1 : narrow ty (.ref v) = .ref v) (n2 : fits ty (.ref v) = true) (kk : ac_S l D cy ad A mc ms d M (pc + 3) ls st w0 (xs.set j (a, .inr (ci, fs.set kf (.ref v)))) k n Q) : ac_S l D cy ad A mc ms d M pc ls (.ref v :: .ref a :: st) w0 xs k n Q := by
  intro p e R s m args below meth c H locs lsA C hP hD hS hls
  obtain ⟨⟨hx, hb, hml, hr, hown, hts, hlk, hfr, hlo, hK⟩, hin, hmc, hms, hA, o1, o2, o3⟩ := id C
  obtain ⟨q, hq, hk, hC, hC2, hw, hfin, hpt⟩ := hf
  obtain ⟨⟨t0, hty0⟩, hnm⟩ := ab_tyx ci q hq
  refine va_put hx hb hts (ab_lay ci q hq) t0 hty0 hnm hown hK.1 hP hD hS _ (ac_get he) hq kf hk (hts _ hw) (fun x hx' => by rw [hC2] at hx'; exact hx') hfin hpt n1 n2 hl hd (fun H1 locs1 gP gD gS => ?_)
  rw [ac_set] at gP gD
  exact kk p e R s m args below meth c H1 locs1 lsA C gP gD gS hls
theorem ac_putI {i ci kf a j : Nat} {z : Int32} {fs : List Value} (hd : decode M.2.1 pc = .ok (.putfield i, 3)) (hf : ac_fl M.1.cls i ci kf false .int) (he : xs[j]? = some (a, .inr (ci, fs))) (hl : kf < fs.length) (kk : ac_S l D cy ad A mc ms d M (pc + 3) ls st w0 (xs.set j (a, .inr (ci, fs.set kf (.int z)))) k n Q) : ac_S l D cy ad A mc ms d M pc ls (.int z :: .ref a :: st) w0 xs k n Q := by
  intro p e R s m args below meth c H locs lsA C hP hD hS hls
  obtain ⟨⟨hx, hb, hml, hr, hown, hts, hlk, hfr, hlo, hK⟩, hin, hmc, hms, hA, o1, o2, o3⟩ := id C
  obtain ⟨q, hq, hk, hC, hC2, hw, hfin, hpt⟩ := hf
  obtain ⟨⟨t0, hty0⟩, hnm⟩ := ab_tyx ci q hq
  refine va_put hx hb hts (ab_lay ci q hq) t0 hty0 hnm hown hK.1 hP hD hS _ (ac_get he) hq kf hk (hts _ hw) (fun x hx' => by rw [hC2] at hx'; exact hx') hfin hpt rfl rfl hl hd (fun H1 locs1 gP gD gS => ?_)
  rw [ac_set] at gP gD
  exact kk p e R s m args below meth c H1 locs1 lsA C gP gD gS hls
theorem ac_iast {a j N : Nat} {i x : Int32} {f : Nat → Int32} (hd : decode M.2.1 pc = .ok (.iastore, 1)) (he : xs[j]? = some (a, .inl (cy 20, N, .inl f))) (hi : vp_in i N) (kk : ac_S l D cy ad A mc ms d M (pc + 1) ls st w0 (xs.set j (a, .inl (cy 20, N, .inl (upd f i.toNatClampNeg x)))) k n Q) : ac_S l D cy ad A mc ms d M pc ls (.int x :: .int i :: .ref a :: st) w0 xs k n Q := by
  intro p e R s m args below meth c H locs lsA C hP hD hS hls
  obtain ⟨⟨hx, hb, hml, hr, hown, hts, hlk, hfr, hlo, hK⟩, hin, hmc, hms, hA, o1, o2, o3⟩ := id C
  refine va_iast hx hb hK.1 hP hD hS _ 0 (ac_get he) rfl hi hd (fun H1 locs1 gP gD gS => ?_)
  rw [ac_set] at gP gD
  exact kk p e R s m args below meth c H1 locs1 lsA C gP gD gS hls
theorem ac_aast {a j j2 N v c9 t ci : Nat} {i : Int32} {r : vw_C} {vs : List Value} {f : Nat → Option Nat} (hd : decode M.2.1 pc = .ok (.aastore, 1)) (he : xs[j]? = some (a, .inl (cy c9, N, .inr (.inr (.inr (.inr f)))))) (ht : (ab_tys cy)[t]? = some (cy c9, .object r.1)) (hv : xs[j2]? = some (v, .inr (ci, vs))) (hc : vwCl[ci]? = some r) (hi : vp_in i N) (kk : ac_S l D cy ad A mc ms d M (pc + 1) ls st w0 (xs.set j (a, .inl (cy c9, N, .inr (.inr (.inr (.inr (va_up f i.toNatClampNeg (some v)))))))) k n Q) : ac_S l D cy ad A mc ms d M pc ls (.ref v :: .int i :: .ref a :: st) w0 xs k n Q := by
  intro p e R s m args below meth c H locs lsA C hP hD hS hls
  obtain ⟨⟨hx, hb, hml, hr, hown, hts, hlk, hfr, hlo, hK⟩, hin, hmc, hms, hA, o1, o2, o3⟩ := id C
  refine va_astq hx hb hK.1 hP hD hS _ t _ ci (ac_get he) ht (ac_get hv) hc hi hd (fun H1 locs1 gP gD gS => ?_)
  rw [ac_set] at gP gD
  exact kk p e R s m args below meth c H1 locs1 lsA C gP gD gS hls
def ac_nw (own : String) (i ci N : Nat) (fs : List Value) : Prop := ∃ (q : vw_C) (ty : Nat → FieldType), vwCl[ci]? = some q ∧ q.2.2 = N ∧ (∀ k, k < q.2.2 → parseFieldDescriptor (q.2.1 k).2.2.1 = some (ty k)) ∧ Cond.classLink own i q.1 ∈ ab_T ∧ Cond.instantiable q.1 q.2.2 ∈ ab_T ∧ Cond.initialized q.1 ∈ ab_T ∧ ∀ j, j < q.2.2 → defaultValue (ty j) = vp_V fs j
theorem ac_new {i ci N : Nat} {fs : List Value} (hd : decode M.2.1 pc = .ok (.new i, 3)) (hf : ac_nw M.1.cls i ci N fs) (h1 : k + 1 ≤ mc) (h2 : n + N ≤ ms) (kk : ∀ a : Nat, ac_S l D cy ad A mc ms d M (pc + 3) ls (.ref a :: st) w0 (xs ++ [(a, .inr (ci, fs))]) (k + 1) (n + N) Q) : ac_S l D cy ad A mc ms d M pc ls st w0 xs k n Q := by
  intro p e R s m args below meth c H locs lsA C hP hD hS hls
  obtain ⟨⟨hx, hb, hml, hr, hown, hts, hlk, hfr, hlo, hK⟩, hin, hmc, hms, hA, o1, o2, o3⟩ := id C
  obtain ⟨⟨C9, T9, N9⟩, ty, hq, rfl, hty, w1, w2, w3, hfs⟩ := hf
  refine va_new (ci := ci) (fs := fs) hx hb hts (ab_lay ci _ hq) ty hty hown (hts _ w1) (hts _ w2) (hts _ w3) hK.1 hP hD hS hA hq hfs (by omega) (by omega) hd (fun q H1 gP gD gS => ?_)
  rw [List.append_assoc] at gP gD
  exact kk q p e R s m args below meth c H1 locs lsA C gP gD gS hls
theorem ac_wnewI : Cond.arrayClass .int ∈ ab_T := ab_inT1 (List.mem_of_getElem? (i := 54) (by decide +kernel)) (by decide +kernel)
theorem ac_newI {N : Nat} {z : Int32} (hd : decode M.2.1 pc = .ok (.newarray .int, 2)) (hz : ¬ z < 0) (hN : z.toNatClampNeg = N) (hN2 : N ≤ 5000) (h1 : k + 1 ≤ mc) (h2 : n + N ≤ ms) (kk : ∀ a : Nat, ac_S l D cy ad A mc ms d M (pc + 2) ls (.ref a :: st) w0 (xs ++ [(a, .inl (cy 20, N, .inl (fun _ => 0)))]) (k + 1) (n + N) Q) : ac_S l D cy ad A mc ms d M pc ls (.int z :: st) w0 xs k n Q := by
  intro p e R s m args below meth c H locs lsA C hP hD hS hls
  obtain ⟨⟨hx, hb, hml, hr, hown, hts, hlk, hfr, hlo, hK⟩, hin, hmc, hms, hA, o1, o2, o3⟩ := id C
  refine va_newa (atype := .int) (ty := .int) (a0 := (N, .inl (fun _ => 0))) hx hb (hts _ ac_wnewI) rfl hK.1 hP hD hS hA (fun _ => rfl) hz hN (by show N * _ ≤ _; simp only [componentBytes]; omega) (by omega) (by omega) hd (fun q cA H1 gK gP gD gS => ?_)
  have e1 : cA = cy 20 := Option.some.inj ((gK.2 7 (cA, .int) rfl).2.symm.trans (hK.1.2 0 (cy 20, .int) rfl).2)
  subst e1
  rw [List.append_assoc] at gP gD
  exact kk q p e R s m args below meth c H1 locs lsA C gP gD gS hls
theorem ac_wnewJ : Cond.arrayClass .long ∈ ab_T := ab_inT1 (List.mem_of_getElem? (i := 254) (by decide +kernel)) (by decide +kernel)
theorem ac_newJ {N : Nat} {z : Int32} (hd : decode M.2.1 pc = .ok (.newarray .long, 2)) (hz : ¬ z < 0) (hN : z.toNatClampNeg = N) (hN2 : N ≤ 5000) (h1 : k + 1 ≤ mc) (h2 : n + N ≤ ms) (kk : ∀ a : Nat, ac_S l D cy ad A mc ms d M (pc + 2) ls (.ref a :: st) w0 (xs ++ [(a, .inl (cy 21, N, .inr (.inl (fun _ => 0))))]) (k + 1) (n + N) Q) : ac_S l D cy ad A mc ms d M pc ls (.int z :: st) w0 xs k n Q := by
  intro p e R s m args below meth c H locs lsA C hP hD hS hls
  obtain ⟨⟨hx, hb, hml, hr, hown, hts, hlk, hfr, hlo, hK⟩, hin, hmc, hms, hA, o1, o2, o3⟩ := id C
  refine va_newa (atype := .long) (ty := .long) (a0 := (N, .inr (.inl (fun _ => 0)))) hx hb (hts _ ac_wnewJ) rfl hK.1 hP hD hS hA (fun _ => rfl) hz hN (by show N * _ ≤ _; simp only [componentBytes]; omega) (by omega) (by omega) hd (fun q cA H1 gK gP gD gS => ?_)
  have e1 : cA = cy 21 := Option.some.inj ((gK.2 7 (cA, .long) rfl).2.symm.trans (hK.1.2 1 (cy 21, .long) rfl).2)
  subst e1
  rw [List.append_assoc] at gP gD
  exact kk q p e R s m args below meth c H1 locs lsA C gP gD gS hls
theorem ac_wnewZ : Cond.arrayClass .boolean ∈ ab_T := ab_inT1 (List.mem_of_getElem? (i := 100) (by decide +kernel)) (by decide +kernel)
theorem ac_newZ {N : Nat} {z : Int32} (hd : decode M.2.1 pc = .ok (.newarray .boolean, 2)) (hz : ¬ z < 0) (hN : z.toNatClampNeg = N) (hN2 : N ≤ 5000) (h1 : k + 1 ≤ mc) (h2 : n + N ≤ ms) (kk : ∀ a : Nat, ac_S l D cy ad A mc ms d M (pc + 2) ls (.ref a :: st) w0 (xs ++ [(a, .inl (cy 22, N, .inl (fun _ => 0)))]) (k + 1) (n + N) Q) : ac_S l D cy ad A mc ms d M pc ls (.int z :: st) w0 xs k n Q := by
  intro p e R s m args below meth c H locs lsA C hP hD hS hls
  obtain ⟨⟨hx, hb, hml, hr, hown, hts, hlk, hfr, hlo, hK⟩, hin, hmc, hms, hA, o1, o2, o3⟩ := id C
  refine va_newa (atype := .boolean) (ty := .boolean) (a0 := (N, .inl (fun _ => 0))) hx hb (hts _ ac_wnewZ) rfl hK.1 hP hD hS hA (fun _ => rfl) hz hN (by show N * _ ≤ _; simp only [componentBytes]; omega) (by omega) (by omega) hd (fun q cA H1 gK gP gD gS => ?_)
  have e1 : cA = cy 22 := Option.some.inj ((gK.2 7 (cA, .boolean) rfl).2.symm.trans (hK.1.2 2 (cy 22, .boolean) rfl).2)
  subst e1
  rw [List.append_assoc] at gP gD
  exact kk q p e R s m args below meth c H1 locs lsA C gP gD gS hls
theorem ac_wnewB : Cond.arrayClass .byte ∈ ab_T := ab_inT1 (List.mem_of_getElem? (i := 578) (by decide +kernel)) (by decide +kernel)
theorem ac_newB {N : Nat} {z : Int32} (hd : decode M.2.1 pc = .ok (.newarray .byte, 2)) (hz : ¬ z < 0) (hN : z.toNatClampNeg = N) (hN2 : N ≤ 5000) (h1 : k + 1 ≤ mc) (h2 : n + N ≤ ms) (kk : ∀ a : Nat, ac_S l D cy ad A mc ms d M (pc + 2) ls (.ref a :: st) w0 (xs ++ [(a, .inl (cy 23, N, .inl (fun _ => 0)))]) (k + 1) (n + N) Q) : ac_S l D cy ad A mc ms d M pc ls (.int z :: st) w0 xs k n Q := by
  intro p e R s m args below meth c H locs lsA C hP hD hS hls
  obtain ⟨⟨hx, hb, hml, hr, hown, hts, hlk, hfr, hlo, hK⟩, hin, hmc, hms, hA, o1, o2, o3⟩ := id C
  refine va_newa (atype := .byte) (ty := .byte) (a0 := (N, .inl (fun _ => 0))) hx hb (hts _ ac_wnewB) rfl hK.1 hP hD hS hA (fun _ => rfl) hz hN (by show N * _ ≤ _; simp only [componentBytes]; omega) (by omega) (by omega) hd (fun q cA H1 gK gP gD gS => ?_)
  have e1 : cA = cy 23 := Option.some.inj ((gK.2 7 (cA, .byte) rfl).2.symm.trans (hK.1.2 3 (cy 23, .byte) rfl).2)
  subst e1
  rw [List.append_assoc] at gP gD
  exact kk q p e R s m args below meth c H1 locs lsA C gP gD gS hls
theorem ac_newq {i N c9 t : Nat} {z : Int32} {C9 : String} (hd : decode M.2.1 pc = .ok (.anewarray i, 3)) (hl : Cond.classLink M.1.cls i C9 ∈ ab_T) (ho : C9 = "KerbSide$Rule" ∧ c9 = 24 ∧ t = 4 ∨ C9 = "KerbSide$Street" ∧ c9 = 25 ∧ t = 5) (hz : ¬ z < 0) (hN : z.toNatClampNeg = N) (hN2 : N ≤ 5000) (h1 : k + 1 ≤ mc) (h2 : n + N ≤ ms) (kk : ∀ a : Nat, ac_S l D cy ad A mc ms d M (pc + 3) ls (.ref a :: st) w0 (xs ++ [(a, .inl (cy c9, N, .inr (.inr (.inr (.inr (fun _ => none))))))]) (k + 1) (n + N) Q) : ac_S l D cy ad A mc ms d M pc ls (.int z :: st) w0 xs k n Q := by
  intro p e R s m args below meth c H locs lsA C hP hD hS hls
  obtain ⟨⟨hx, hb, hml, hr, hown, hts, hlk, hfr, hlo, hK⟩, hin, hmc, hms, hA, o1, o2, o3⟩ := id C
  have hov : va_AO C9 s := by rcases ho with ⟨rfl, -⟩ | ⟨rfl, -⟩ <;> assumption
  refine va_newq hx hb hown (hts _ hl) hov hK.1 hP hD hS hA hz hN (by omega) (by omega) (by omega) hd (fun q cA H1 gK gP gD gS => ?_)
  have e1 : cA = cy c9 := by
    obtain ⟨_, _, -, -, -, g⟩ := (gK.2 7 (cA, .object C9) rfl).2
    rcases ho with ⟨rfl, rfl, rfl⟩ | ⟨rfl, rfl, rfl⟩
    · obtain ⟨_, _, -, -, -, g2⟩ := (hK.1.2 4 (cy 24, .object "KerbSide$Rule") rfl).2
      exact Option.some.inj (g.symm.trans g2)
    · obtain ⟨_, _, -, -, -, g2⟩ := (hK.1.2 5 (cy 25, .object "KerbSide$Street") rfl).2
      exact Option.some.inj (g.symm.trans g2)
  subst e1
  rw [List.append_assoc] at gP gD
  exact kk q p e R s m args below meth c H1 locs lsA C gP gD gS hls
theorem ac_mna {i N K9 : Nat} {z y : Int32} (hd : decode M.2.1 pc = .ok (.multianewarray i 2, 4)) (hl : Cond.classLink M.1.cls i "[[J" ∈ ab_T) (hz : ¬ z < 0) (hy : ¬ y < 0) (hN : z.toNatClampNeg = N) (hK9 : y.toNatClampNeg = K9) (hN2 : N ≤ 5000) (hN3 : K9 ≤ 5000) (h1 : k + (1 + N) ≤ mc) (h2 : n + (N + N * K9) ≤ ms) (kk : ∀ (a : Nat) (r : Nat → Nat), ac_S l D cy ad A mc ms d M (pc + 4) ls (.ref a :: st) w0 (xs ++ ((a, .inl (cy 26, N, .inr (.inr (.inr (.inr (fun i => if i < N then some (r i) else none)))))) :: (List.range N).map (fun i => (r i, .inl (cy 21, K9, .inr (.inl (fun _ => 0))))))) (k + 1 + N) (n + N + N * K9) Q) : ac_S l D cy ad A mc ms d M pc ls (.int y :: .int z :: st) w0 xs k n Q := by
  intro p e R s m args below meth c H locs lsA C hP hD hS hls
  obtain ⟨⟨hx, hb, hml, hr, hown, hts, hlk, hfr, hlo, hK⟩, hin, hmc, hms, hA, o1, o2, o3⟩ := id C
  refine va_mna (X := w0 ++ xs) (L := []) (f := fun _ => .inr (0, [])) (ty := .long) (cy := cy 21) (z := (K9, .inr (.inl (fun _ => 0)))) hx hb hown (hts _ hl) o3 (hts _ ac_wnewJ) (hK.1.2 1 (cy 21, .long) rfl).2 hK.1 (by rw [show va_pl [] (fun _ => (.inr (0, []) : va_E)) = [] from rfl, List.append_nil]; exact hP) (by rw [show va_pl [] (fun _ => (.inr (0, []) : va_E)) = [] from rfl, List.append_nil]; exact hD) hS hA hz hy hN hK9 (by omega) (by show K9 * 8 ≤ _; omega) (by omega) rfl rfl (by omega) (by omega) (fun _ => ?_) hd (fun q r cA H1 hinj hni gK gP gD gS => ?_)
  · show ({ cls := _, slots := Array.replicate K9 (.long 0), vm := .none } : Cell) = _
    rw [arrV_new]; rfl
  have e1 : cA = cy 26 := Option.some.inj ((gK.2 7 (cA, .array .long) rfl).2.symm.trans (hK.1.2 6 (cy 26, .array .long) rfl).2)
  subst e1
  have ew : va_pl ([] ++ (List.range N).map r) (vr_up (fun _ => (.inr (0, []) : va_E)) ((List.range N).map r) (.inl (cy 21, (K9, .inr (.inl (fun _ => 0)))))) = (List.range N).map (fun i => (r i, .inl (cy 21, K9, .inr (.inl (fun _ => 0))))) := by
    unfold va_pl
    rw [List.nil_append, List.map_map]
    refine List.map_congr_left (fun i hi => ?_)
    show (r i, vr_up _ _ _ (r i)) = _
    rw [vr_up_in (List.mem_map.mpr ⟨i, hi, rfl⟩)]
  rw [ew, List.append_assoc, List.append_assoc] at gP gD
  exact kk q r p e R s m args below meth c H1 locs lsA C gP gD gS hls
def ac_Pc (D : va_G) (cy : Nat → ClassId) (ad : Nat → Nat) (A : Nat → Prop) (As : List Value) (ws : va_W) : Array Value → State → Prop := va_Pc As (fun U => va_P D vwCl ws U.heap ∧ va_D A ws ∧ ab_K D cy ad A U U.heap ∧ (∀ q, U.heap.size ≤ q → A q) ∧ va_AO "KerbSide$Rule" U ∧ va_AO "KerbSide$Street" U ∧ va_AOA .long U)
def ac_rm (mc ms d : Nat) : Room := { frames := d, cells := mc, slots := ms, locals := 128 * d }
theorem ac_met {As : List Value} (hpl : plainName M.1.cls = true) (hni : M.1.name = "<init>") (hn : (lg_sl As).length ≤ M.2.2.1) (body : ac_S l D cy ad A mc ms d M 0 (lv_args 0 As) [] w0 xs 0 0 Q) : Met l M.1 (ab_ws M) (ac_rm mc ms d) (ac_Pc D cy ad A As (w0 ++ xs)) (ac_Qc D A w0 Q) mc ms A := by
  refine Met.ofW (cc := M.2.1) (maxL := M.2.2.1) (ret := M.2.2.2) hpl rfl ?_
  intro p e s m args below meth c s₁ B hml hv
  obtain ⟨rfl, hP, hD, hK, hA, o1, o2, o3⟩ := hv
  have hts := atoms_spec (ws := ab_ws M) B.pre
  rw [lg_entry_eq]
  have hl := lv_entry As (n := M.2.2.1) hn
  exact body p e _ s m _ below meth c s.heap [] _ ⟨⟨B.exec, B.bytes, hml, B.returns, findClass_of_methodNamed B.named, fun w hw => hts w (List.mem_cons_of_mem _ hw), B.notSynchronized, Nat.le_refl d, Nat.le_refl (128 * d), hK⟩, (name_of_methodNamed B.named B.method).1.trans hni, Nat.le_refl mc, Nat.le_refl ms, hA, o1, o2, o3⟩ hP hD va_S.rf hl
theorem ac_blind {As : List Value} {ws : va_W} : FrameBlind (ac_Pc D cy ad A As ws) := by
  intro a U g mk q
  obtain ⟨q0, qP, qD, qK, qA, q1, q2, q3⟩ := q
  exact ⟨q0, qP, qD, ab_K.same (U := U.calling g mk a) qK rfl, qA, q1, q2, q3⟩
def ac_li (own : String) (i : Nat) (M' : ab_M) (n : Nat) : Prop := Cond.methodLinkNest own i M'.1 "KerbSide" ∈ ab_nest ∧ ab_ok M' n ∧ M'.1.name = "<init>" ∧ M'.2.2.2 = none ∧ Cond.instanceMethod M'.1 ∈ ab_T
theorem ac_call {i a na mc' ms' : Nat} {M' : ab_M} {As rest : List Value} {ys zs : va_W} (hd : decode M.2.1 pc = .ok (.invokespecial i, 3)) (hf : ac_li M.1.cls i M' na) (hna : As.length = na) (hn : (lg_sl (.ref a :: As)).length ≤ M'.2.2.1) (hw : ab_cat rest ≤ 8) (h1 : k + mc' ≤ mc) (h2 : n + ms' ≤ ms) (hs : As.reverse ++ .ref a :: rest = st) (hxs : ys ++ zs = xs)
    (body : ac_S l D cy ad A mc' ms' d M' 0 (lv_args 0 (.ref a :: As)) [] (w0 ++ ys) zs 0 0 (fun zs' => ac_S l D cy ad A mc ms (d + 1) M (pc + 3) ls rest w0 (ys ++ zs') (k + mc') (n + ms') Q)) : ac_S l D cy ad A mc ms (d + 1) M pc ls st w0 xs k n Q := by
  subst hs
  subst hxs
  intro p e R s m args below meth c H locs lsA C hP hD hS hls
  obtain ⟨⟨hx, hb, hml, hr, hown, hts, hlk, hfr, hlo, hK⟩, hin, hmc, hms, hA, o1, o2, o3⟩ := id C
  obtain ⟨fl, ⟨g1, g2, g3, g4, g5, g6, g7⟩, gi, gr, f3⟩ := hf
  have hM := ac_met g3 gi hn body
  have hpre : PreS s H (ac_Pc D cy ad A (.ref a :: As) ((w0 ++ ys) ++ zs)) (.ref a :: As) := ⟨ac_blind, fun U hU hW => ⟨rfl, by rw [hU, List.append_assoc]; exact hP, by rw [List.append_assoc]; exact hD, by rw [hU]; exact hK.moved hW hS.2.1, fun q hq => hA q (by rw [hU] at hq; exact Nat.le_trans hS.1 hq), va_AO.moved hW.alike o1, va_AO.moved hW.alike o2, va_AOA.moved hW.alike o3⟩⟩
  have hR : (ac_rm mc' ms' d).frames + 1 ≤ R.frames ∧ 8 + (M'.2.2.1 + 11) + (ac_rm mc' ms' d).locals ≤ R.locals := ⟨hfr, by show 8 + (M'.2.2.1 + 11) + 128 * d ≤ R.locals; omega⟩
  have hgood := ab_goodw g1
  have hws : ab_ws M' = Cond.code M'.1 M'.2.1 M'.2.2.1 none :: ab_T := by unfold ab_ws; rw [gr]
  have hrun := va_runIN (l := l) (e := e) (below := below) (meth := meth) (locs := locs) (cells := k) (slots := n) (Ts := ab_T) (host := "KerbSide") (As := As) (rest := rest) (g := F0 m pc lsA (As.reverse ++ .ref a :: rest)) ⟨hx, hb, hml, hown, hts⟩ hM ⟨va_cnB As.length hts hgood hws rfl rfl (hK.2.1 _ fl) (hts _ g2) ⟨g4, g5, by rw [g6, hna]⟩ hR, gi, hts _ f3⟩ hpre rfl rfl hls.1 rfl (lv_room hw) hd ⟨by omega, by omega⟩
  intro T hT X
  obtain ⟨v, st₀, t, T', L, h0, X', hL, e1, e2, ⟨⟨hv, zs', hQ, hP', hD'⟩, hz, hk⟩, stp⟩ := hrun T hT X
  cases hv
  rw [h0] at hz hk
  have hS' : va_S A s.heap T'.heap (locs ++ L) := ⟨Nat.le_trans hS.1 (by rw [e1]; exact hz), fun q h1 h2 => by rw [e1, hk q (Nat.lt_of_lt_of_le h1 hS.1) h2]; exact hS.2.1 q h1 h2, fun q hq => by
    rcases List.mem_append.mp hq with h | h
    · exact hS.2.2 q h
    · exact hL q h⟩
  rw [List.append_assoc] at hP' hD'
  obtain ⟨t2, a1, b1⟩ := hQ p e R s m args below meth c T'.heap (locs ++ L) lsA C (by rw [e1]; exact hP') hD' hS' hls T' rfl X'
  exact ⟨t2, stp t2 a1, b1⟩
end MAK
