/-! THE ABSTRACT RUN IS THE MACHINE'S. -/
theorem ab_cv_cat (ad : Nat → Nat) (v : Value) : (ab_cv ad v).category = v.category := by cases v <;> rfl
theorem ab_cv_ref (ad : Nat → Nat) (a : Nat) : ab_cv ad (.ref a) = .ref (ad a) := rfl
abbrev ab_lm (ad : Nat → Nat) (ls : ab_L) : ab_L := ls.map (fun q => (q.1, ab_cv ad q.2))
theorem ab_lm_get {ad : Nat → Nat} {ls : ab_L} {k i : Nat} {v : Value} (h : ls[k]? = some (i, v)) : (ab_lm ad ls)[k]? = some (i, ab_cv ad v) := by
  rw [List.getElem?_map, h]; rfl
theorem ab_lm_st1 (ad : Nat → Nat) (i : Nat) (v : Value) (ls : ab_L) : ab_lm ad (ab_st1 i v ls) = (i, ab_cv ad v) :: (ab_lm ad ls).filter (fun q => !(q.1 == i) && !(q.1 + 1 == i && q.2.category == 2)) := by
  show (i, ab_cv ad v) :: List.map _ (List.filter _ ls) = _
  rw [List.filter_map]
  congr 2
  refine List.filter_congr fun q _ => ?_
  simp [ab_cv_cat]
theorem ab_lm_st2 (ad : Nat → Nat) (i : Nat) (v : Value) (ls : ab_L) : ab_lm ad (ab_st2 i v ls) = (i, ab_cv ad v) :: (ab_lm ad ls).filter (fun q => !(q.1 == i) && (!(q.1 == i + 1) && !(q.1 + 1 == i && q.2.category == 2))) := by
  show (i, ab_cv ad v) :: List.map _ (List.filter _ ls) = _
  rw [List.filter_map]
  congr 2
  refine List.filter_congr fun q _ => ?_
  simp [ab_cv_cat]
theorem ab_lm_args (ad : Nat → Nat) : ∀ (vs : List Value) (i : Nat), lv_args i (vs.map (ab_cv ad)) = ab_lm ad (lv_args i vs)
  | [], _ => rfl
  | v :: vs, i => by
    show (i, ab_cv ad v) :: lv_args (if (ab_cv ad v).category = 2 then i + 2 else i + 1) (vs.map (ab_cv ad)) = (i, ab_cv ad v) :: ab_lm ad (lv_args (if v.category = 2 then i + 2 else i + 1) vs)
    rw [ab_cv_cat, ab_lm_args ad vs]
theorem ab_sl_len (ad : Nat → Nat) (vs : List Value) : (lg_sl (vs.map (ab_cv ad))).length = (lg_sl vs).length := by
  induction vs with
  | nil => rfl
  | cons v vs ih =>
    have e : ∀ w : Value, ∀ ws : List Value, lg_sl (w :: ws) = (if w.category = 2 then [.val w, .second] else [.val w]) ++ lg_sl ws := fun w ws => by simp [lg_sl]
    rw [List.map_cons, e, e, List.length_append, List.length_append, ih, ab_cv_cat]
    congr 1
    by_cases q : v.category = 2 <;> simp [q]
theorem ab_cat_map (ad : Nat → Nat) (vs : List Value) : ((vs.map (ab_cv ad)).map fun v => v.category).sum = ab_cat vs := by
  unfold ab_cat
  rw [List.map_map]
  congr 2
  funext v
  exact ab_cv_cat ad v
theorem ab_W_get {cy : Nat → ClassId} {ad : Nat → Nat} {h : ab_H} {a : Nat} (ha : a < ab_N) : (ab_W cy ad h)[a]? = some (ad a, ab_E cy ad h a) := by
  unfold ab_W
  rw [List.getElem?_map, List.getElem?_range ha]
  rfl
theorem ab_kd_lt {a c n : Nat} (h : ab_kd a = (c, n)) (hc : c < 99) : a < ab_N := by
  rcases Nat.lt_or_ge a ab_N with q | q
  · exact q
  · have e : ab_kd a = (99, 0) := by
      unfold ab_kd
      rw [List.getD_eq_getElem?_getD, List.getElem?_eq_none (by show ab_kinds.length ≤ a; exact q)]
      rfl
    rw [e] at h
    cases h
    omega
theorem ab_W_set {cy : Nat → ClassId} {ad : Nat → Nat} {h h' : ab_H} {a : Nat} {e : va_E} (he : ab_E cy ad h' a = e) (ho : ∀ b, b ≠ a → ab_E cy ad h' b = ab_E cy ad h b) : (ab_W cy ad h).set a (ad a, e) = ab_W cy ad h' := by
  apply List.ext_getElem?
  intro b
  by_cases hb : b < ab_N
  · rw [ab_W_get hb]
    by_cases hba : b = a
    · subst hba
      rw [List.getElem?_set_self (by simp [ab_W]; exact hb), he]
    · rw [List.getElem?_set_ne (Ne.symm hba), ab_W_get hb, ho b hba]
  · have l1 : (ab_W cy ad h').length = ab_N := by simp [ab_W]
    have l2 : ((ab_W cy ad h).set a (ad a, e)).length = ab_N := by simp [ab_W]
    rw [List.getElem?_eq_none (by omega), List.getElem?_eq_none (by omega)]
theorem ab_E_obj {cy : Nat → ClassId} {ad : Nat → Nat} {h : ab_H} {a ci n : Nat} (ha : ab_kd a = (ci, n)) (hc : ci < 13) : ab_E cy ad h a = .inr (ci, ab_F ad ci h a) := by
  unfold ab_E; rw [ha]; exact if_pos hc
theorem ab_E_int {cy : Nat → ClassId} {ad : Nat → Nat} {h : ab_H} {a c n : Nat} (ha : ab_kd a = (c, n)) (hc : c = 20 ∨ c = 22 ∨ c = 23) : ab_E cy ad h a = .inl (cy c, n, .inl (h.1 a)) := by
  unfold ab_E; rw [ha]; rcases hc with rfl | rfl | rfl <;> rfl
theorem ab_E_long {cy : Nat → ClassId} {ad : Nat → Nat} {h : ab_H} {a n : Nat} (ha : ab_kd a = (21, n)) : ab_E cy ad h a = .inl (cy 21, n, .inr (.inl (h.2.1 a))) := by
  unfold ab_E; rw [ha]; rfl
theorem ab_E_ref {cy : Nat → ClassId} {ad : Nat → Nat} {h : ab_H} {a c n : Nat} (ha : ab_kd a = (c, n)) (hc : c = 24 ∨ c = 25 ∨ c = 26) : ab_E cy ad h a = .inl (cy c, n, .inr (.inr (.inr (.inr (fun i => some (ad (ab_P h.2.2 a i))))))) := by
  unfold ab_E; rw [ha]; rcases hc with rfl | rfl | rfl <;> rfl
theorem ab_F_get {ad : Nat → Nat} {h : ab_H} {a ci k : Nat} (hk : k < ab_nf ci) : (ab_F ad ci h a)[k]? = some (ab_fv ad (ab_tag ci k) h a k) := by
  unfold ab_F
  rw [List.getElem?_map, List.getElem?_range hk]
  rfl
theorem ab_F_len (ad : Nat → Nat) (h : ab_H) (a ci : Nat) : (ab_F ad ci h a).length = ab_nf ci := by simp [ab_F]
theorem ab_F_set {ad : Nat → Nat} {h h' : ab_H} {a ci k : Nat} {v : Value} (hv : ab_fv ad (ab_tag ci k) h' a k = v) (ho : ∀ j, j ≠ k → ab_fv ad (ab_tag ci j) h' a j = ab_fv ad (ab_tag ci j) h a j) : (ab_F ad ci h a).set k v = ab_F ad ci h' a := by
  apply List.ext_getElem?
  intro b
  by_cases hb : b < ab_nf ci
  · rw [ab_F_get hb]
    by_cases hbk : b = k
    · subst hbk
      rw [List.getElem?_set_self (by rw [ab_F_len]; exact hb), hv]
    · rw [List.getElem?_set_ne (Ne.symm hbk), ab_F_get hb, ho b hbk]
  · rw [List.getElem?_eq_none (by rw [List.length_set, ab_F_len]; omega), List.getElem?_eq_none (by rw [ab_F_len]; omega)]
/-- a cell that doesn't speak of the changed place -/
theorem ab_E_congr {cy : Nat → ClassId} {ad : Nat → Nat} {h h' : ab_H} {b : Nat} (h1 : h'.1 b = h.1 b) (h2 : h'.2.1 b = h.2.1 b) (h3 : ab_P h'.2.2 b = ab_P h.2.2 b) : ab_E cy ad h' b = ab_E cy ad h b := by
  unfold ab_E ab_F ab_fv
  simp only [h1, h2, h3]
theorem ab_up_ne {α : Type} {f : Nat → Nat → α} {a k : Nat} {v : α} {b : Nat} (h : b ≠ a) : ab_up f a k v b = f b := by
  funext j; unfold ab_up; rw [if_neg h]
theorem ab_up_at {α : Type} (f : Nat → Nat → α) (a k : Nat) (v : α) : ab_up f a k v a = fun j => if j = k then v else f a j := by
  funext j; unfold ab_up; rw [if_pos rfl]
theorem ab_up_same {α : Type} {f : Nat → Nat → α} {a k : Nat} {v : α} : ab_up f a k v a k = v := by unfold ab_up; rw [if_pos rfl, if_pos rfl]
theorem ab_up_idx {α : Type} {f : Nat → Nat → α} {a k : Nat} {v : α} {b j : Nat} (h : j ≠ k) : ab_up f a k v b j = f b j := by
  unfold ab_up
  by_cases e : b = a
  · rw [if_pos e, if_neg h]
  · rw [if_neg e]
theorem ab_cp_ne {α : Type} {f : Nat → Nat → α} {a b sp dp n c : Nat} (h : c ≠ b) : ab_cp f a b sp dp n c = f c := by
  funext j; unfold ab_cp; rw [if_neg h]
theorem ab_cp_at {α : Type} (f : Nat → Nat → α) (a b sp dp n : Nat) : ab_cp f a b sp dp n b = va_cpy (f a) (f b) sp dp n := by
  funext j; unfold ab_cp va_cpy; rw [if_pos rfl]
/-- what a state's tables and constants must give -/
def ab_K (D : va_G) (cy : Nat → ClassId) (ad : Nat → Nat) (A : Nat → Prop) (U : State) (H : Heap) : Prop :=
  va_K D vwCl (ab_tys cy) U ∧ (∀ w ∈ ab_nest, va_Nw w U) ∧ (∀ j, j < 9 → va_Z "KerbSide$KerbReader" (ab_sn j) "[I" (.ref (ad (1000 + j))) A U H ∧ va_T .int (ad (1000 + j)) (ab_sc j).length (fun i => .int ((ab_sc j).getD i 0)) A U H) ∧
  vk_S 5 ab_stl ab_sbyt (fun i => ad (2000 + i)) (fun i => ad (3000 + i)) A U H ∧ (∀ q ∈ ab_sites, vk_R q.1 q.2.1 (ab_stx q.2.2) (ad (2000 + q.2.2)) U) ∧ va_Z "java/lang/String" "COMPACT_STRINGS" "Z" (.int 1) A U H ∧ (va_Z "jdk/internal/util/Preconditions" "SIOOBE_FORMATTER" "Ljava/util/function/BiFunction;" .null A U H ∨ va_Z "jdk/internal/util/Preconditions" "SIOOBE_FORMATTER" "Ljava/util/function/BiFunction;" (.ref (ad 4000)) A U H)
theorem ab_nest_warm {w : Cond} (hw : w ∈ ab_nest) {s U : State} (hW : s.WarmedH U.vm) (h : va_Nw w s) : va_Nw w U := by
  have h1 := (List.mem_filter.mp hw).2
  cases w <;> first | (exact va_Nw.warmF hW h) | (exact va_Nw.warmM hW h) | (cases h1)
theorem ab_nest_same {w : Cond} (hw : w ∈ ab_nest) {s U : State} (hv : U.vm = s.vm) (h : va_Nw w s) : va_Nw w U := by
  have h1 := (List.mem_filter.mp hw).2
  cases w <;> first | (exact va_tabs rfl hv.symm h) | (cases h1)
theorem ab_K.moved {D : va_G} {cy : Nat → ClassId} {ad : Nat → Nat} {A : Nat → Prop} {s U : State} {H H1 : Heap} (h : ab_K D cy ad A s H) (hW : s.WarmedH U.vm) (hq : ∀ a : Nat, a < H.size → ¬ A a → H1[a]? = H[a]?) : ab_K D cy ad A U H1 := by
  obtain ⟨h1, h2, h3, h4, h5, h6, h7⟩ := h
  exact ⟨va_K.moved hW.alike h1, fun w hw => ab_nest_warm hw hW (h2 w hw), fun j hj => ⟨((h3 j hj).1.moved hW.alike).kept hq, ((h3 j hj).2.moved hW.alike).kept hq⟩, (h4.moved hW.alike).kept hq, fun q hq' => (h5 q hq').warm hW, (h6.moved hW.alike).kept hq, h7.elim (fun z => Or.inl ((z.moved hW.alike).kept hq)) (fun z => Or.inr ((z.moved hW.alike).kept hq))⟩
theorem ab_K.same {D : va_G} {cy : Nat → ClassId} {ad : Nat → Nat} {A : Nat → Prop} {s U : State} {H : Heap} (h : ab_K D cy ad A s H) (hv : U.vm = s.vm) : ab_K D cy ad A U H := by
  have ha : s.vm.Alike U.vm := by rw [hv]; exact Vm.Alike.refl s.vm
  obtain ⟨h1, h2, h3, h4, h5, h6, h7⟩ := h
  exact ⟨va_K.moved ha h1, fun w hw => ab_nest_same hw hv (h2 w hw), fun j hj => ⟨(h3 j hj).1.moved ha, (h3 j hj).2.moved ha⟩, h4.moved ha, fun q hq => (h5 q hq).same hv, h6.moved ha, h7.elim (fun z => Or.inl (z.moved ha)) (fun z => Or.inr (z.moved ha))⟩
def ab_C (D : va_G) (cy : Nat → ClassId) (ad : Nat → Nat) (A : Nat → Prop) (d : Nat) (M : ab_M) (p : Program) (R : Room) (s : State) (m : MethodId) (args : Array Value) (meth : Method) (c : Code) : Prop :=
  p.tables.exec = Jvm.exec ∧ c.code = M.2.1 ∧ c.maxLocals = M.2.2.1 ∧ meth.sig.returnType = M.2.2.2 ∧ s.vm.findClass M.1.cls = some m.cls ∧ (∀ w ∈ ab_T, w.before args s = true) ∧ meth.locks = false ∧ d ≤ R.frames ∧ 128 * d ≤ R.locals ∧ ab_K D cy ad A s s.heap
def ab_Qc (D : va_G) (cy : Nat → ClassId) (ad : Nat → Nat) (A : Nat → Prop) (Q : ab_Q) : Array Value → State → Outcome → State → Prop := fun _ st oc t =>
  (∃ (r : Option Value) (h' : ab_H), oc = .returned (r.map (ab_cv ad)) ∧ Q r h' ∧ va_P D vwCl (ab_W cy ad h') t.heap) ∧ va_F A st t
def ab_S (l : Launch) (D : va_G) (cy : Nat → ClassId) (ad : Nat → Nat) (A : Nat → Prop) : ab_R := fun d M pc ls st h Q =>
  ∀ (p : Program) (e : Env) (R : Room) (s : State) (m : MethodId) (args : Array Value) (below : List Frame) (meth : Method) (c : Code) (H : Heap) (locs : List Loc) (lsA : Array Slot),
    ab_C D cy ad A d M p R s m args meth c → va_P D vwCl (ab_W cy ad h) H → va_D A (ab_W cy ad h) → va_S A s.heap H locs → lv_has lsA M.2.2.1 (ab_lm ad ls) →
    W p l e R s m args below meth c H locs 0 0 (MQ below (ab_Qc D cy ad A Q) args s 0 0 A) (F0 m pc lsA (st.map (ab_cv ad)))
theorem ab_S_mono (l : Launch) (D : va_G) (cy : Nat → ClassId) (ad : Nat → Nat) (A : Nat → Prop) : ab_mono (ab_S l D cy ad A) := by
  intro d M pc ls st h Q Q' hq k p e R s m args below meth c H locs lsA C hP hD hS hl T hT X
  obtain ⟨t, a, o, b1, b2, ⟨⟨r, h', c1, c2, c3⟩, c4⟩, c5⟩ := k p e R s m args below meth c H locs lsA C hP hD hS hl T hT X
  exact ⟨t, a, o, b1, b2, ⟨⟨r, h', c1, hq r h' c2, c3⟩, c4⟩, c5⟩
/-- the world keeps its addresses -/
theorem ab_D_any {cy : Nat → ClassId} {ad : Nat → Nat} {A : Nat → Prop} {h h' : ab_H} (hD : va_D A (ab_W cy ad h)) : va_D A (ab_W cy ad h') := by
  have key : ∀ (k : Nat) (q : Nat × va_E), (ab_W cy ad h')[k]? = some q → k < ab_N ∧ q.1 = ad k := by
    intro k q hk
    have hl : k < ab_N := by
      have := (List.getElem?_eq_some_iff.mp hk).1
      simpa [ab_W] using this
    rw [ab_W_get hl] at hk
    cases hk
    exact ⟨hl, rfl⟩
  refine ⟨fun i j x y hi hj hxy => ?_, fun k q hk => ?_⟩
  · obtain ⟨l1, e1⟩ := key i x hi
    obtain ⟨l2, e2⟩ := key j y hj
    exact hD.1 i j _ _ (ab_W_get l1) (ab_W_get l2) (e1.symm.trans (hxy.trans e2))
  · obtain ⟨l1, e1⟩ := key k q hk
    rw [e1]
    exact hD.2 k _ (ab_W_get l1)
