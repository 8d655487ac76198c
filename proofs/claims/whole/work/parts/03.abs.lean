/-! THE ABSTRACT RUN: methods over a small heap: ints and longs by place and index, and which text the model reads; all other references are fixed, no frames, no tables. -/
abbrev ab_H : Type := (Nat → Nat → Int32) × (Nat → Nat → Int64) × Nat
abbrev ab_M : Type := MethodName × ByteArray × Nat × Option FieldType
abbrev ab_Q : Type := Option Value → ab_H → Prop
abbrev ab_L : Type := List (Nat × Value)
abbrev ab_R : Type := Nat → ab_M → Nat → ab_L → List Value → ab_H → ab_Q → Prop
/-- the layout: kind and length of each place -/
def ab_kinds : List (Nat × Nat) := [(11, 0), (10, 0), (20, 160), (3, 0), (6, 0), (20, 4), (20, 4), (22, 20), (20, 3), (22, 3), (8, 0), (7, 0), (20, 160), (20, 160), (20, 32), (6, 0), (20, 4), (20, 4), (22, 20), (24, 4), (7, 0), (20, 160), (20, 160), (20, 32), (7, 0), (20, 160), (20, 160), (20, 32), (7, 0), (20, 160), (20, 160), (20, 32), (7, 0), (20, 160), (20, 160), (20, 32), (9, 0), (20, 20), (20, 20), (9, 0), (20, 20), (20, 20), (9, 0), (20, 20), (20, 20), (9, 0), (20, 20), (20, 20), (9, 0), (20, 20), (20, 20), (9, 0), (20, 20), (20, 20), (9, 0), (20, 20), (20, 20), (9, 0), (20, 20), (20, 20), (9, 0), (20, 20), (20, 20), (9, 0), (20, 20), (20, 20), (9, 0), (20, 20), (20, 20), (9, 0), (20, 20), (20, 20), (9, 0), (20, 20), (20, 20), (9, 0), (20, 20), (20, 20), (9, 0), (20, 20), (20, 20), (9, 0), (20, 20), (20, 20), (9, 0), (20, 20), (20, 20), (9, 0), (20, 20), (20, 20), (9, 0), (20, 20), (20, 20), (9, 0), (20, 20), (20, 20), (9, 0), (20, 20), (20, 20), (9, 0), (20, 20), (20, 20), (9, 0), (20, 20), (20, 20), (9, 0), (20, 20), (20, 20), (9, 0), (20, 20), (20, 20), (9, 0), (20, 20), (20, 20), (9, 0), (20, 20), (20, 20), (9, 0), (20, 20), (20, 20), (9, 0), (20, 20), (20, 20), (9, 0), (20, 20), (20, 20), (9, 0), (20, 20), (20, 20), (9, 0), (20, 20), (20, 20), (9, 0), (20, 20), (20, 20), (9, 0), (20, 20), (20, 20), (9, 0), (20, 20), (20, 20), (9, 0), (20, 20), (20, 20), (9, 0), (20, 20), (20, 20), (9, 0), (20, 20), (20, 20), (9, 0), (20, 20), (20, 20), (9, 0), (20, 20), (20, 20), (9, 0), (20, 20), (20, 20), (9, 0), (20, 20), (20, 20), (9, 0), (20, 20), (20, 20), (0, 0), (25, 40), (2, 0), (20, 20), (20, 20), (5, 0), (21, 21), (20, 21), (26, 21), (21, 21), (21, 21), (21, 21), (21, 21), (21, 21), (21, 21), (21, 21), (21, 21), (21, 21), (21, 21), (21, 21), (21, 21), (21, 21), (21, 21), (21, 21), (21, 21), (21, 21), (21, 21), (21, 21), (21, 21), (21, 21), (21, 21), (21, 21), (4, 0), (1, 0), (20, 5), (12, 0), (23, 160), (23, 640), (20, 4), (20, 128), (20, 3), (20, 3), (20, 8), (20, 8), (20, 8), (20, 8), (20, 20), (20, 20), (20, 3), (20, 800), (20, 800), (20, 120), (21, 21), (21, 441), (21, 21), (21, 21), (20, 21), (20, 20), (20, 12), (21, 4096), (20, 20), (20, 20), (20, 3)]
def ab_kd (a : Nat) : Nat × Nat := ab_kinds.getD a (99, 0)
def ab_N : Nat := 228
def ab_refs (a : Nat) : List Nat := match a with
  | 0 => [1, 3, 10, 15, 19, 0, 0, 36, 39, 42, 0, 165, 167, 170, 197, 198, 199, 0]
  | 1 => [2]
  | 3 => [1, 4, 8, 9]
  | 4 => [0, 0, 0, 0, 5, 6, 7]
  | 10 => [1, 11]
  | 11 => [12, 13, 14]
  | 15 => [0, 0, 0, 0, 16, 17, 18]
  | 165 => [166]
  | 167 => [168, 169]
  | 170 => [171, 172, 173, 174, 175]
  | 197 => [15, 36]
  | 198 => [15, 36]
  | 200 => [0, 201, 202, 203, 204, 0, 0, 0, 0, 0, 0, 0, 0, 0, 0, 2004, 2003, 0, 205, 206, 207, 208, 209, 210, 0, 0, 0, 0, 0, 211, 212, 213, 0, 0, 214, 215, 216, 0, 0, 217, 218, 219, 220, 221, 0, 0, 222, 223, 224, 0, 0, 225, 226, 227, 0]
  | _ => []
/-- where each reference leads; t: the text that the model reads -/
def ab_P (t a : Nat) : Nat → Nat := fun k => if a = 200 then (if k = 5 then t else (ab_refs 200).getD k 0) else if 36 ≤ a ∧ a < 165 then a + 1 + k else if a = 166 then 45 + 3 * k else if a = 19 then 20 + 4 * k else if a = 173 then 176 + k else if 20 ≤ a ∧ a < 36 then a + 1 + k else (ab_refs a).getD k 0
def ab_tags : List (List Nat) := [[2, 0, 0], [2, 2, 1, 0, 0], [2, 2, 0], [2, 2, 2, 2, 3, 0], [2, 2, 0, 0, 0, 0, 0], [2, 2, 2, 2, 2], [0, 0, 0, 0, 2, 2, 2], [2, 2, 2, 0, 0], [2, 2], [2, 2, 0, 0, 0, 0], [2, 0, 0, 0], [2, 2, 2, 2, 2, 0, 0, 2, 2, 2, 3, 2, 2, 2, 2, 2, 2, 1], [0, 2, 2, 2, 2, 2, 0, 0, 0, 0, 0, 0, 0, 0, 0, 2, 2, 3, 2, 2, 2, 2, 2, 2, 0, 0, 0, 0, 3, 2, 2, 2, 0, 0, 2, 2, 2, 0, 1, 2, 2, 2, 2, 2, 0, 0, 2, 2, 2, 0, 0, 2, 2, 2, 3]]
def ab_tag (ci k : Nat) : Nat := (ab_tags.getD ci []).getD k 9
def ab_nf (ci : Nat) : Nat := (ab_tags.getD ci []).length
def ab_sn (j : Nat) : String := (["KERB_USUAL", "KERB_LEAST", "KERB_MOST", "SORT_LEAST", "SORT_MOST", "SORT_USUAL", "GATE_LEAST", "GATE_MOST", "GATE_USUAL"] : List String).getD j ""
def ab_sc (j : Nat) : List Int32 := ([[12, 0, 50], [2, 0, 0], [20, 99, 99], [1, 1], [9, 9], [3, 1], [0, 1], [19, 9], [0, 1]] : List (List Int32)).getD j []
def ab_stl : List Nat := [3, 2, 2, 5, 1]
def ab_sbyt : List (List Int32) := [[108, 113, 111], [108, 119], [97, 108], [112, 108, 98, 97, 110], [121]]
def ab_stx (i : Nat) : String := (["lqo", "lw", "al", "plban", "y"] : List String).getD i ""
def ab_sites : List (String × Nat × Nat) := [("KerbSide$KerbReader", 81, 0), ("KerbSide$KerbReader", 93, 1), ("KerbSide$KerbReader", 108, 2), ("KerbSide$RuleReader", 86, 3), ("KerbSideModel", 26, 4), ("KerbSideModel", 32, 3), ("KerbSideModel", 245, 0), ("KerbSideModel", 247, 1), ("KerbSideModel", 249, 2)]
/-- values, cells, the world at the addresses ad -/
def ab_cv (ad : Nat → Nat) (v : Value) : Value := match v with
  | .ref a => .ref (ad a)
  | w => w
def ab_fv (ad : Nat → Nat) (t : Nat) (h : ab_H) (a k : Nat) : Value := if t = 1 then .long (h.2.1 a k) else if t = 2 then .ref (ad (ab_P h.2.2 a k)) else .int (h.1 a k)
def ab_F (ad : Nat → Nat) (ci : Nat) (h : ab_H) (a : Nat) : List Value := (List.range (ab_nf ci)).map (fun k => ab_fv ad (ab_tag ci k) h a k)
def ab_E (cy : Nat → ClassId) (ad : Nat → Nat) (h : ab_H) (a : Nat) : va_E :=
  if (ab_kd a).1 < 13 then .inr ((ab_kd a).1, ab_F ad (ab_kd a).1 h a)
  else if (ab_kd a).1 = 21 then .inl (cy 21, (ab_kd a).2, .inr (.inl (h.2.1 a)))
  else if (ab_kd a).1 < 24 then .inl (cy (ab_kd a).1, (ab_kd a).2, .inl (h.1 a))
  else .inl (cy (ab_kd a).1, (ab_kd a).2, .inr (.inr (.inr (.inr (fun i => some (ad (ab_P h.2.2 a i)))))))
def ab_W (cy : Nat → ClassId) (ad : Nat → Nat) (h : ab_H) : va_W := (List.range ab_N).map (fun a => (ad a, ab_E cy ad h a))
def ab_tys (cy : Nat → ClassId) : List (ClassId × FieldType) := [(cy 20, .int), (cy 21, .long), (cy 22, .boolean), (cy 23, .byte), (cy 24, .object "KerbSide$Rule"), (cy 25, .object "KerbSide$Street"), (cy 26, .array .long)]
/-- the maps changed at one place -/
def ab_up {α : Type} (f : Nat → Nat → α) (a k : Nat) (v : α) : Nat → Nat → α := fun b j => if b = a then (if j = k then v else f b j) else f b j
def ab_cp {α : Type} (f : Nat → Nat → α) (a b sp dp n : Nat) : Nat → Nat → α := fun c j => if c = b then (if dp ≤ j ∧ j < dp + n then f a (sp + (j - dp)) else f b j) else f c j
def ab_pi (h : ab_H) (a k : Nat) (v : Int32) : ab_H := (ab_up h.1 a k v, h.2.1, h.2.2)
def ab_pl (h : ab_H) (a k : Nat) (v : Int64) : ab_H := (h.1, ab_up h.2.1 a k v, h.2.2)
def ab_pp (h : ab_H) (v : Nat) : ab_H := (h.1, h.2.1, v)
/-- the words: good ones of the tables, and the nest mates' -/
def ab_T : List Cond := lw_tbl.filter goodWord
def ab_isNest : Cond → Bool
  | .fieldLinkNest _ _ _ _ _ _ => true
  | .methodLinkNest _ _ _ _ => true
  | _ => false
def ab_nest : List Cond := tables_1.filter ab_isNest
theorem ab_inT {w : Cond} (h : w ∈ lw_tbl) (g : goodWord w = true) : w ∈ ab_T := List.mem_filter.mpr ⟨h, g⟩
theorem ab_inT1 {w : Cond} (h : w ∈ tables_1) (g : goodWord w = true) : w ∈ ab_T := ab_inT (List.mem_append_right _ h) g
theorem ab_inN {w : Cond} (h : w ∈ tables_1) (g : ab_isNest w = true) : w ∈ ab_nest := List.mem_filter.mpr ⟨h, g⟩
theorem ab_good : GoodIn ab_T ab_T := fun w h => ⟨h, good_of_word (List.mem_filter.mp h).2⟩
def ab_ws (M : ab_M) : List Cond := Cond.code M.1 M.2.1 M.2.2.1 M.2.2.2 :: ab_T
def ab_rm (d : Nat) : Room := { frames := d, cells := 0, slots := 0, locals := 128 * d }
/-- a field's entry of a class file: the class ci of the list, its field k -/
def ab_fl (own : String) (idx ci k : Nat) : Prop := ∃ q : vw_C, vwCl[ci]? = some q ∧ k < q.2.2 ∧ (q.2.1 k).1 = q.1 ∧ (Cond.fieldLink own idx q.1 (q.2.1 k).2.1 (q.2.1 k).2.2.1 ∈ ab_T ∨ Cond.fieldLinkNest own idx q.1 (q.2.1 k).2.1 (q.2.1 k).2.2.1 "KerbSide" ∈ ab_nest)
/-- a method that can be called: its own words -/
def ab_ok (M : ab_M) (n : Nat) : Prop := Cond.code M.1 M.2.1 M.2.2.1 M.2.2.2 ∈ ab_T ∧ Cond.initialized M.1.cls ∈ ab_T ∧ plainName M.1.cls = true ∧ M.1.cls ≠ "java/lang/invoke/MethodHandle" ∧ M.1.cls ≠ "java/lang/invoke/VarHandle" ∧ (parseMethodDescriptor M.1.desc).map (fun d => d.parameters.length) = some n ∧ M.2.2.1 ≤ 60
def ab_lnk (own : String) (idx : Nat) (M : ab_M) : Prop := Cond.methodLink own idx M.1 ∈ ab_T ∨ Cond.methodLinkNest own idx M.1 "KerbSide" ∈ ab_nest
def ab_lv (own : String) (idx : Nat) (M : ab_M) (ci n : Nat) : Prop := ab_lnk own idx M ∧ ab_ok M n ∧ Cond.instanceMethod M.1 ∈ ab_T ∧ Cond.selects M.1.cls M.1 M.1 ∈ ab_T ∧ ∃ q : vw_C, vwCl[ci]? = some q ∧ q.1 = M.1.cls
def ab_lt (own : String) (idx : Nat) (M : ab_M) (n : Nat) : Prop := ab_lnk own idx M ∧ ab_ok M n ∧ Cond.instanceMethod M.1 ∈ ab_T ∧ Cond.selects M.1.cls M.1 M.1 ∈ ab_T ∧ M.1.cls = "java/lang/String"
def ab_ls (own : String) (idx : Nat) (M : ab_M) (n : Nat) : Prop := ab_lnk own idx M ∧ ab_ok M n ∧ Cond.static M.1 ∈ ab_T
def ab_cat (st : List Value) : Nat := (st.map fun v => v.category).sum
def ab_math (own : String) (idx : Nat) (y : MethodName) (b : ByteArray) (n : Nat) (t : FieldType) : Prop := Cond.methodLink own idx y ∈ ab_T ∧ Cond.static y ∈ ab_T ∧ Cond.initialized "java/lang/Math" ∈ ab_T ∧ Cond.code y b n (some t) ∈ ab_T
def ab_acp (own : String) (idx : Nat) : Prop := Cond.methodLink own idx arraycopyName ∈ ab_T ∧ Cond.native arraycopyName ∈ ab_T ∧ Cond.static arraycopyName ∈ ab_T ∧ Cond.initialized "java/lang/System" ∈ ab_T
def ab_st1 (i : Nat) (v : Value) (ls : ab_L) : ab_L := (i, v) :: ls.filter (fun q => !(q.1 == i) && !(q.1 + 1 == i && q.2.category == 2))
def ab_st2 (i : Nat) (v : Value) (ls : ab_L) : ab_L := (i, v) :: ls.filter (fun q => !(q.1 == i) && (!(q.1 == i + 1) && !(q.1 + 1 == i && q.2.category == 2)))
