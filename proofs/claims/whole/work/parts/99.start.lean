/-! THE FIRST WORLD is a world of the abstract machine, and the relation holds there -/
theorem arrV_same {c : ClassId} {n : Nat} {f f' : Nat → Value} (h : ∀ j, j < n → f j = f' j) : arrV c n f = arrV c n f' := by
  have e : (Array.ofFn (n := n) fun j => f j.val) = (Array.ofFn (n := n) fun j => f' j.val) := congrArg (fun z : Fin n → Value => Array.ofFn z) (funext fun j => h j.val j.isLt)
  unfold arrV
  rw [e]
theorem vpq {c : ClassId} {n : Nat} {f f' : Nat → Option Nat} (h : ∀ j, j < n → f j = f' j) : vp_cell c (n, .inr (.inr (.inr (.inr f)))) = vp_cell c (n, .inr (.inr (.inr (.inr f')))) := by
  rw [vp_cell_q, vp_cell_q]
  exact arrV_same (fun j hj => by rw [h j hj])
theorem va_atq {D : va_G} {q : Nat} {c : ClassId} {n : Nat} {f f' : Nat → Option Nat} {H : Heap} (h : ∀ j, j < n → f j = f' j) (k : va_at D vwCl (q, .inl (c, n, .inr (.inr (.inr (.inr f))))) H) : va_at D vwCl (q, .inl (c, n, .inr (.inr (.inr (.inr f'))))) H := by
  have k' : H[q]? = some (vp_cell c (n, .inr (.inr (.inr (.inr f))))) := k
  show H[q]? = some (vp_cell c (n, .inr (.inr (.inr (.inr f')))))
  rw [k', vpq h]
theorem kE_19 {g : Nat → Nat} : ∀ j, j < 4 → kkrF (fun i => (g (20 + 4 * i), g (21 + 4 * i), g (22 + 4 * i), g (23 + 4 * i))) 4 j = some (g (ab_P kh0.2.2 19 j)) := fun j hj => by
  unfold kkrF
  rw [if_pos hj]
  rfl
theorem kE_166 {g : Nat → Nat} : ∀ j, j < 40 → kksF (fun i => (g (45 + 3 * i), g (46 + 3 * i), g (47 + 3 * i))) 40 j = some (g (ab_P kh0.2.2 166 j)) := fun j hj => by
  unfold kksF
  rw [if_pos hj]
  rfl
theorem kE_173 {g : Nat → Nat} : ∀ j, j < 21 → (if j < 21 then some (g (176 + j)) else none) = some (g (ab_P kh0.2.2 173 j)) := fun j hj => by
  rw [if_pos hj]
  rfl
theorem kE_at {D : va_G} {cy : Nat → ClassId} {g : Nat → Nat} {p : Nat} {H : Heap} (h : va_at D vwCl (kf cy g p) H) : va_at D vwCl (g p, ab_E cy g kh0 p) H := by
  unfold kf kE at h
  by_cases e1 : p = 19
  · subst e1
    rw [if_pos rfl] at h
    rw [ab_E_ref (c := 24) (n := 4) rfl (Or.inl rfl)]
    exact va_atq kE_19 h
  rw [if_neg e1] at h
  by_cases e2 : p = 166
  · subst e2
    rw [if_pos rfl] at h
    rw [ab_E_ref (c := 25) (n := 40) rfl (Or.inr (Or.inl rfl))]
    exact va_atq kE_166 h
  rw [if_neg e2] at h
  by_cases e3 : p = 173
  · subst e3
    rw [if_pos rfl] at h
    rw [ab_E_ref (c := 26) (n := 21) rfl (Or.inr (Or.inr rfl))]
    exact va_atq kE_173 h
  rw [if_neg e3] at h
  exact h
theorem kw_P {D : va_G} {cy : Nat → ClassId} {g : Nat → Nat} {H : Heap} {L : List Nat} {X : va_W} (hL : ∀ p, p < 228 → p ∈ L) (h : va_P D vwCl (L.map (kf cy g) ++ X) H) : va_P D vwCl (ab_W cy g kh0) H := by
  intro k q hk
  have hl : k < ab_N := by
    have := (List.getElem?_eq_some_iff.mp hk).1
    simpa [ab_W] using this
  rw [ab_W_get hl] at hk
  cases hk
  obtain ⟨i, hi⟩ := List.getElem?_of_mem (List.mem_append_left X (List.mem_map.mpr ⟨k, hL k hl, rfl⟩) : kf cy g k ∈ L.map (kf cy g) ++ X)
  exact kE_at (h i _ hi)
theorem kw_D {A : Nat → Prop} {cy : Nat → ClassId} {g : Nat → Nat} {L : List Nat} {X : va_W} (hL : ∀ p, p < 228 → p ∈ L) (h : va_D A (L.map (kf cy g) ++ X)) : va_D A (ab_W cy g kh0) := by
  have key : ∀ k, k < 228 → ∃ i, L[i]? = some k ∧ (L.map (kf cy g) ++ X)[i]? = some (kf cy g k) := fun k hk => by
    obtain ⟨i, hi⟩ := List.getElem?_of_mem (hL k hk)
    refine ⟨i, hi, ?_⟩
    have hlt : i < (L.map (kf cy g)).length := by rw [List.length_map]; exact (List.getElem?_eq_some_iff.mp hi).1
    rw [List.getElem?_append_left hlt, List.getElem?_map, hi]; rfl
  have pl : ∀ (k : Nat) (q : Nat × va_E), (ab_W cy g kh0)[k]? = some q → k < 228 ∧ q.1 = g k := fun k q hk => by
    have hl : k < ab_N := by
      have := (List.getElem?_eq_some_iff.mp hk).1
      simpa [ab_W] using this
    rw [ab_W_get hl] at hk
    cases hk
    exact ⟨hl, rfl⟩
  refine ⟨fun i j x y hi hj hxy => ?_, fun k q hk => ?_⟩
  · obtain ⟨l1, e1⟩ := pl i x hi
    obtain ⟨l2, e2⟩ := pl j y hj
    obtain ⟨i', a1, a2⟩ := key i l1
    obtain ⟨j', b1, b2⟩ := key j l2
    have := h.1 i' j' _ _ a2 b2 (show g i = g j by rw [← e1, ← e2]; exact hxy)
    subst this
    rw [a1] at b1
    exact Option.some.inj b1
  · obtain ⟨l1, e1⟩ := pl k q hk
    obtain ⟨i', a1, a2⟩ := key k l1
    rw [e1]
    exact h.2 i' _ a2
/-- what the first heap holds -/
theorem zv_kh0 (b j : Nat) : zv kh0 b j = if b = 0 then (if j = 6 then -1 else 0) else if b = 200 then (if j = 33 then -1 else 0) else if 36 ≤ b ∧ b < 165 ∧ b % 3 ≠ 0 then (if j < 20 then -1 else 0) else 0 := by
  unfold zv kh0 kst
  dsimp only
  by_cases e1 : b = 0
  · rw [if_pos e1, if_pos e1]; split <;> rfl
  rw [if_neg e1, if_neg e1]
  by_cases e2 : b = 200
  · rw [if_pos e2, if_pos e2]; split <;> rfl
  rw [if_neg e2, if_neg e2]
  by_cases e3 : 36 ≤ b ∧ b < 165 ∧ b % 3 ≠ 0
  · rw [if_pos e3, if_pos e3]; split <;> rfl
  rw [if_neg e3, if_neg e3]; rfl
theorem zk0 {b j : Nat} (h0 : ¬ b = 0) (h1 : ¬ b = 200) (h : ¬ (36 ≤ b ∧ b < 165 ∧ b % 3 ≠ 0)) : zv kh0 b j = 0 := by rw [zv_kh0, if_neg h0, if_neg h1, if_neg h]
theorem zk1 {b j : Nat} (h : 36 ≤ b ∧ b < 165 ∧ b % 3 ≠ 0) (hj : j < 20) : zv kh0 b j = -1 := by rw [zv_kh0, if_neg (by omega), if_neg (by omega), if_pos h, if_pos hj]
theorem zkC {j : Nat} (h : ¬ j = 6) : zv kh0 0 j = 0 := by rw [zv_kh0, if_pos rfl, if_neg h]
theorem zkM {j : Nat} (h : ¬ j = 33) : zv kh0 200 j = 0 := by rw [zv_kh0, if_neg (by decide), if_pos rfl, if_neg h]
theorem zkC6 : zv kh0 0 6 = -1 := by rw [zv_kh0, if_pos rfl, if_pos rfl]
theorem zkM33 : zv kh0 200 33 = -1 := by rw [zv_kh0, if_neg (by decide), if_pos rfl, if_pos rfl]
theorem INV_first : INV kh0 := by
  refine ⟨0, 0, ⟨?_, ?_, ?_, ?_, ?_, ?_⟩, ?_, ?_⟩
  · have a : ∀ j, zv kh0 15 j = 0 := fun j => zk0 (by decide) (by decide) (by decide)
    exact ⟨by decide, by decide, Iff.rfl, a 0, zkM (by decide), a 3, zkM (by decide), fun i hi => absurd hi (Nat.not_lt_zero i), fun h => absurd h (by decide), fun _ => ⟨a 1, a 2⟩, by rw [a 1]; decide, by rw [a 2]; decide⟩
  · exact ⟨0, by decide, zk0 (by decide) (by decide) (by decide), zkM (by decide), fun i hi => absurd hi (Nat.not_lt_zero i)⟩
  · exact ⟨by rw [zkC (by decide), zkM (by decide)], fun h => absurd (zkM (by decide)) h⟩
  · exact ⟨0, 0, by decide, by decide, zk0 (by decide) (by decide) (by decide), zkM (by decide), zk0 (by decide) (by decide) (by decide), fun i hi => absurd hi (Nat.not_lt_zero i)⟩
  · exact ⟨fun y hy => ⟨zk1 (by decide) hy, zk1 (by decide) hy⟩, fun j _ _ => zk0 (by decide) (by decide) (by decide)⟩
  · have b : ∀ y, y < 20 → zv kh0 37 y = -1 := fun y hy => zk1 (by decide) hy
    refine ⟨⟨fun y hy => Or.inl ⟨b y hy, zk1 (by decide) hy⟩, fun p hp e => ?_⟩, ?_, fun y _ h => absurd h (by decide), fun y _ h => absurd h (by decide), ?_, ?_, ?_⟩
    · have e' : zv kh0 37 p = (p : Int) := e
      rw [b p hp] at e'; omega
    · show zv kh0 36 2 = ((cB (zv kh0 37) 20 : Nat) : Int)
      rw [zk0 (by decide) (by decide) (by decide), cB_cut (n := 0) 20 (by omega) (fun y _ h2 e => by rw [b y h2] at e; omega)]; rfl
    · rw [zk0 (by decide) (by decide) (by decide)]; exact (zk0 (by decide) (by decide) (by decide)).symm
    · rw [zk0 (by decide) (by decide) (by decide)]; exact (zk0 (by decide) (by decide) (by decide)).symm
    · rw [zk0 (by decide) (by decide) (by decide)]; exact (zk0 (by decide) (by decide) (by decide)).symm
  · exact ⟨0, by decide, zkC (by decide), zkM (by decide), by rw [zkC6, zkM33], by rw [zkC6]; decide, fun i hi => absurd hi (Nat.not_lt_zero i)⟩
  · intro j
    rw [zk0 (by decide) (by decide) (by decide)]; decide
