/-! THE FIRST WORLD -/
def kh0 : ab_H := (fun p => if p = 0 then (fun j => if j = 6 then -1 else 0) else if p = 200 then (fun j => if j = 33 then -1 else 0) else if 36 ≤ p ∧ p < 165 ∧ p % 3 ≠ 0 then kst 20 else fun _ => 0, fun _ _ => 0, 201)
def kwM (cy : Nat → ClassId) (ad : Nat → Nat) (m0 : Nat) (m1 : Nat) (m2 : Nat) (m3 : Nat) (m4 : Nat) (m5 : Nat) (m6 : Nat) (m7 : Nat) (m8 : Nat) (m9 : Nat) (m10 : Nat) (m11 : Nat) (m12 : Nat) (m13 : Nat) (m14 : Nat) (m15 : Nat) (m16 : Nat) (m17 : Nat) (m18 : Nat) (m19 : Nat) (m20 : Nat) (m21 : Nat) (m22 : Nat) (m23 : Nat) (m24 : Nat) (m25 : Nat) (m26 : Nat) (m27 : Nat) : va_W := ((m0, .inr (12, [.int 0, .ref m1, .ref m2, .ref m3, .ref m4, .ref m1, .int 0, .int 0, .int 0, .int 0, .int 0, .int 0, .int 0, .int 0, .int 0, .ref (ad (2000 + 4)), .ref (ad (2000 + 3)), .int 0, .ref m5, .ref m6, .ref m7, .ref m8, .ref m9, .ref m10, .int 0, .int 0, .int 0, .int 0, .int 0, .ref m11, .ref m12, .ref m13, .int 0, .int (-1), .ref m14, .ref m15, .ref m16, .int 0, .long 0, .ref m17, .ref m18, .ref m19, .ref m20, .ref m21, .int 0, .int 0, .ref m22, .ref m23, .ref m24, .int 0, .int 0, .ref m25, .ref m26, .ref m27, .int 0])) :: (((((((((((((((((((((((((((([] : va_W) ++ ([(m1, .inl (cy 23, 160, .inl (fun _ => 0)))] : va_W)) ++ ([(m2, .inl (cy 23, 640, .inl (fun _ => 0)))] : va_W)) ++ ([(m3, .inl (cy 20, 4, .inl (fun _ => 0)))] : va_W)) ++ ([(m4, .inl (cy 20, 128, .inl (fun _ => 0)))] : va_W)) ++ ([(m5, .inl (cy 20, 3, .inl (fun _ => 0)))] : va_W)) ++ ([(m6, .inl (cy 20, 3, .inl (fun _ => 0)))] : va_W)) ++ ([(m7, .inl (cy 20, 8, .inl (fun _ => 0)))] : va_W)) ++ ([(m8, .inl (cy 20, 8, .inl (fun _ => 0)))] : va_W)) ++ ([(m9, .inl (cy 20, 8, .inl (fun _ => 0)))] : va_W)) ++ ([(m10, .inl (cy 20, 8, .inl (fun _ => 0)))] : va_W)) ++ ([(m11, .inl (cy 20, 20, .inl (fun _ => 0)))] : va_W)) ++ ([(m12, .inl (cy 20, 20, .inl (fun _ => 0)))] : va_W)) ++ ([(m13, .inl (cy 20, 3, .inl (fun _ => 0)))] : va_W)) ++ ([(m14, .inl (cy 20, 800, .inl (fun _ => 0)))] : va_W)) ++ ([(m15, .inl (cy 20, 800, .inl (fun _ => 0)))] : va_W)) ++ ([(m16, .inl (cy 20, 120, .inl (fun _ => 0)))] : va_W)) ++ ([(m17, .inl (cy 21, 21, .inr (.inl (fun _ => 0))))] : va_W)) ++ ([(m18, .inl (cy 21, 441, .inr (.inl (fun _ => 0))))] : va_W)) ++ ([(m19, .inl (cy 21, 21, .inr (.inl (fun _ => 0))))] : va_W)) ++ ([(m20, .inl (cy 21, 21, .inr (.inl (fun _ => 0))))] : va_W)) ++ ([(m21, .inl (cy 20, 21, .inl (fun _ => 0)))] : va_W)) ++ ([(m22, .inl (cy 20, 20, .inl (fun _ => 0)))] : va_W)) ++ ([(m23, .inl (cy 20, 12, .inl (fun _ => 0)))] : va_W)) ++ ([(m24, .inl (cy 21, 4096, .inr (.inl (fun _ => 0))))] : va_W)) ++ ([(m25, .inl (cy 20, 20, .inl (fun _ => 0)))] : va_W)) ++ ([(m26, .inl (cy 20, 20, .inl (fun _ => 0)))] : va_W)) ++ ([(m27, .inl (cy 20, 3, .inl (fun _ => 0)))] : va_W)))
def kE (cy : Nat → ClassId) (g : Nat → Nat) (p : Nat) : va_E := if p = 19 then .inl (cy 24, 4, .inr (.inr (.inr (.inr (kkrF (fun i => (g (20 + 4 * i), g (21 + 4 * i), g (22 + 4 * i), g (23 + 4 * i))) 4))))) else if p = 166 then .inl (cy 25, 40, .inr (.inr (.inr (.inr (kksF (fun i => (g (45 + 3 * i), g (46 + 3 * i), g (47 + 3 * i))) 40))))) else if p = 173 then .inl (cy 26, 21, .inr (.inr (.inr (.inr (fun i => if i < 21 then some (g (176 + i)) else none))))) else ab_E cy g kh0 p
def kf (cy : Nat → ClassId) (g : Nat → Nat) (p : Nat) : Nat × va_E := (g p, kE cy g p)
theorem kap {f : Nat → Nat × va_E} {X Z : va_W} {S N : List Nat} (h1 : X = S.map f) (h2 : Z = N.map f) : X ++ Z = (S ++ N).map f := by rw [h1, h2, List.map_append]
theorem kco {f : Nat → Nat × va_E} {x : Nat × va_E} {X : va_W} {i : Nat} {S : List Nat} (h1 : x = f i) (h2 : X = S.map f) : x :: X = (i :: S).map f := by rw [h1, h2, List.map_cons]
theorem kni {f : Nat → Nat × va_E} : ([] : va_W) = ([] : List Nat).map f := rfl
theorem kss1 {cy : Nat → ClassId} {g : Nat → Nat} : ∀ x, x < 40 → kksC cy (g (45 + 3 * x)) (g (46 + 3 * x)) (g (47 + 3 * x)) = [45 + 3 * x, 46 + 3 * x, 47 + 3 * x].map (kf cy g) := fun x hx => match x, hx with
  | 0, _ => rfl
  | 1, _ => rfl
  | 2, _ => rfl
  | 3, _ => rfl
  | 4, _ => rfl
  | 5, _ => rfl
  | 6, _ => rfl
  | 7, _ => rfl
  | 8, _ => rfl
  | 9, _ => rfl
  | 10, _ => rfl
  | 11, _ => rfl
  | 12, _ => rfl
  | 13, _ => rfl
  | 14, _ => rfl
  | 15, _ => rfl
  | 16, _ => rfl
  | 17, _ => rfl
  | 18, _ => rfl
  | 19, _ => rfl
  | 20, _ => rfl
  | 21, _ => rfl
  | 22, _ => rfl
  | 23, _ => rfl
  | 24, _ => rfl
  | 25, _ => rfl
  | 26, _ => rfl
  | 27, _ => rfl
  | 28, _ => rfl
  | 29, _ => rfl
  | 30, _ => rfl
  | 31, _ => rfl
  | 32, _ => rfl
  | 33, _ => rfl
  | 34, _ => rfl
  | 35, _ => rfl
  | 36, _ => rfl
  | 37, _ => rfl
  | 38, _ => rfl
  | 39, _ => rfl
  | n + 40, h => absurd h (by omega)
def kPS (n : Nat) : List Nat := (List.range n).flatMap (fun x => [45 + 3 * x, 46 + 3 * x, 47 + 3 * x])
theorem kss2 {cy : Nat → ClassId} {g : Nat → Nat} : kksT cy (fun i => (g (45 + 3 * i), g (46 + 3 * i), g (47 + 3 * i))) 40 = (kPS 40).map (kf cy g) := by
  unfold kksT kPS
  rw [List.map_flatMap]
  exact kflat (fun x hx => kss1 x (List.mem_range.mp hx))
theorem krr1 {cy : Nat → ClassId} {g : Nat → Nat} : kkrT cy (fun i => (g (20 + 4 * i), g (21 + 4 * i), g (22 + 4 * i), g (23 + 4 * i))) 4 = [20, 21, 22, 23, 24, 25, 26, 27, 28, 29, 30, 31, 32, 33, 34, 35].map (kf cy g) := rfl
theorem ktt1 {cy : Nat → ClassId} {g : Nat → Nat} : ((List.range 21).map (fun i => (g (176 + i), .inl (cy 21, 21, .inr (.inl (fun _ => 0)))) ) : va_W) = [176, 177, 178, 179, 180, 181, 182, 183, 184, 185, 186, 187, 188, 189, 190, 191, 192, 193, 194, 195, 196].map (kf cy g) := rfl
set_option maxRecDepth 20000 in
theorem kwC_eq_0 {cy : Nat → ClassId} {g : Nat → Nat} : ((([((g 1), .inr (10, [.ref (g 2), .int 0, .int 0, .int 0]))] : va_W) ++ ([((g 2), .inl (cy 20, 160, .inl (fun _ => 0)))] : va_W)) : va_W) = ([1, 2] : List Nat).map (kf cy g) := rfl
set_option maxRecDepth 20000 in
theorem kwC_eq_1 {cy : Nat → ClassId} {g : Nat → Nat} : ((((([((g 3), .inr (3, [.ref (g 1), .ref (g 4), .ref (g 8), .ref (g 9), .int 0, .int 0]))] : va_W) ++ (((([((g 4), .inr (6, [.int 0, .int 0, .int 0, .int 0, .ref (g 5), .ref (g 6), .ref (g 7)]))] : va_W) ++ ([((g 5), .inl (cy 20, 4, .inl (fun _ => 0)))] : va_W)) ++ ([((g 6), .inl (cy 20, 4, .inl (fun _ => 0)))] : va_W)) ++ ([((g 7), .inl (cy 22, 20, .inl (fun _ => 0)))] : va_W))) ++ ([((g 8), .inl (cy 20, 3, .inl (fun _ => 0)))] : va_W)) ++ ([((g 9), .inl (cy 22, 3, .inl (fun _ => 0)))] : va_W)) : va_W) = ([3, 4, 5, 6, 7, 8, 9] : List Nat).map (kf cy g) := rfl
set_option maxRecDepth 20000 in
theorem kwC_eq_2 {cy : Nat → ClassId} {g : Nat → Nat} : ((([((g 10), .inr (8, [.ref (g 1), .ref (g 11)]))] : va_W) ++ (((([((g 11), .inr (7, [.ref (g 12), .ref (g 13), .ref (g 14), .int 0, .int 0]))] : va_W) ++ ([((g 12), .inl (cy 20, 160, .inl (fun _ => 0)))] : va_W)) ++ ([((g 13), .inl (cy 20, 160, .inl (fun _ => 0)))] : va_W)) ++ ([((g 14), .inl (cy 20, 32, .inl (fun _ => 0)))] : va_W))) : va_W) = ([10, 11, 12, 13, 14] : List Nat).map (kf cy g) := rfl
set_option maxRecDepth 20000 in
theorem kwC_eq_3 {cy : Nat → ClassId} {g : Nat → Nat} : ((((([((g 15), .inr (6, [.int 0, .int 0, .int 0, .int 0, .ref (g 16), .ref (g 17), .ref (g 18)]))] : va_W) ++ ([((g 16), .inl (cy 20, 4, .inl (fun _ => 0)))] : va_W)) ++ ([((g 17), .inl (cy 20, 4, .inl (fun _ => 0)))] : va_W)) ++ ([((g 18), .inl (cy 22, 20, .inl (fun _ => 0)))] : va_W)) : va_W) = ([15, 16, 17, 18] : List Nat).map (kf cy g) := rfl
set_option maxRecDepth 20000 in
theorem kwC_eq_4 {cy : Nat → ClassId} {g : Nat → Nat} : (([((g 19), .inl (cy 24, 4, .inr (.inr (.inr (.inr (kkrF (fun i => (g (20 + 4 * i), g (21 + 4 * i), g (22 + 4 * i), g (23 + 4 * i))) 4))))))] : va_W) : va_W) = ([19] : List Nat).map (kf cy g) := rfl
set_option maxRecDepth 20000 in
theorem kwC_eq_5 {cy : Nat → ClassId} {g : Nat → Nat} : (kkrT cy (fun i => (g (20 + 4 * i), g (21 + 4 * i), g (22 + 4 * i), g (23 + 4 * i))) 4 : va_W) = [20, 21, 22, 23, 24, 25, 26, 27, 28, 29, 30, 31, 32, 33, 34, 35].map (kf cy g) := krr1
set_option maxRecDepth 20000 in
theorem kwC_eq_6 {cy : Nat → ClassId} {g : Nat → Nat} : (((([((g 36), .inr (9, [.ref (g 37), .ref (g 38), .int 0, .int 0, .int 0, .int 0]))] : va_W) ++ ([((g 37), .inl (cy 20, 20, .inl (kst 20)))] : va_W)) ++ ([((g 38), .inl (cy 20, 20, .inl (kst 20)))] : va_W)) : va_W) = ([36, 37, 38] : List Nat).map (kf cy g) := rfl
set_option maxRecDepth 20000 in
theorem kwC_eq_7 {cy : Nat → ClassId} {g : Nat → Nat} : (((([((g 39), .inr (9, [.ref (g 40), .ref (g 41), .int 0, .int 0, .int 0, .int 0]))] : va_W) ++ ([((g 40), .inl (cy 20, 20, .inl (kst 20)))] : va_W)) ++ ([((g 41), .inl (cy 20, 20, .inl (kst 20)))] : va_W)) : va_W) = ([39, 40, 41] : List Nat).map (kf cy g) := rfl
set_option maxRecDepth 20000 in
theorem kwC_eq_8 {cy : Nat → ClassId} {g : Nat → Nat} : (((([((g 42), .inr (9, [.ref (g 43), .ref (g 44), .int 0, .int 0, .int 0, .int 0]))] : va_W) ++ ([((g 43), .inl (cy 20, 20, .inl (kst 20)))] : va_W)) ++ ([((g 44), .inl (cy 20, 20, .inl (kst 20)))] : va_W)) : va_W) = ([42, 43, 44] : List Nat).map (kf cy g) := rfl
set_option maxRecDepth 20000 in
theorem kwC_eq_9 {cy : Nat → ClassId} {g : Nat → Nat} : (((([((g 165), .inr (0, [.ref (g 166), .int 0, .int 0]))] : va_W) ++ [((g 166), .inl (cy 25, 40, .inr (.inr (.inr (.inr (kksF (fun i => (g (45 + 3 * i), g (46 + 3 * i), g (47 + 3 * i))) 40))))))]) ++ kksT cy (fun i => (g (45 + 3 * i), g (46 + 3 * i), g (47 + 3 * i))) 40) : va_W) = ([165, 166] ++ kPS 40).map (kf cy g) := kap (S := [165, 166]) rfl kss2
set_option maxRecDepth 20000 in
theorem kwC_eq_10 {cy : Nat → ClassId} {g : Nat → Nat} : (((([((g 167), .inr (2, [.ref (g 168), .ref (g 169), .int 0]))] : va_W) ++ ([((g 168), .inl (cy 20, 20, .inl (fun _ => 0)))] : va_W)) ++ ([((g 169), .inl (cy 20, 20, .inl (fun _ => 0)))] : va_W)) : va_W) = ([167, 168, 169] : List Nat).map (kf cy g) := rfl
set_option maxRecDepth 20000 in
theorem kwC_eq_11 {cy : Nat → ClassId} {g : Nat → Nat} : ((((((([((g 170), .inr (5, [.ref (g 171), .ref (g 172), .ref (g 173), .ref (g 174), .ref (g 175)]))] : va_W) ++ ([((g 171), .inl (cy 21, 21, .inr (.inl (fun _ => 0))))] : va_W)) ++ ([((g 172), .inl (cy 20, 21, .inl (fun _ => 0)))] : va_W)) ++ (((g 173), .inl (cy 26, 21, .inr (.inr (.inr (.inr (fun i => if i < 21 then some (g (176 + i)) else none)))))) :: (List.range 21).map (fun i => (g (176 + i), .inl (cy 21, 21, .inr (.inl (fun _ => 0))))))) ++ ([((g 174), .inl (cy 21, 21, .inr (.inl (fun _ => 0))))] : va_W)) ++ ([((g 175), .inl (cy 21, 21, .inr (.inl (fun _ => 0))))] : va_W)) : va_W) = ([170, 171, 172, 173, 176, 177, 178, 179, 180, 181, 182, 183, 184, 185, 186, 187, 188, 189, 190, 191, 192, 193, 194, 195, 196, 174, 175] : List Nat).map (kf cy g) := rfl
set_option maxRecDepth 20000 in
theorem kwC_eq_12 {cy : Nat → ClassId} {g : Nat → Nat} : (([((g 197), .inr (4, [.ref (g 15), .ref (g 36), .int 0, .int 0, .int 0, .int 0, .int 0]))] : va_W) : va_W) = ([197] : List Nat).map (kf cy g) := rfl
set_option maxRecDepth 20000 in
theorem kwC_eq_13 {cy : Nat → ClassId} {g : Nat → Nat} : (([((g 198), .inr (1, [.ref (g 15), .ref (g 36), .long 0, .int 0, .int 0]))] : va_W) : va_W) = ([198] : List Nat).map (kf cy g) := rfl
set_option maxRecDepth 20000 in
theorem kwC_eq_14 {cy : Nat → ClassId} {g : Nat → Nat} : (([((g 199), .inl (cy 20, 5, .inl (fun _ => 0)))] : va_W) : va_W) = ([199] : List Nat).map (kf cy g) := rfl
def kwC_eq_L : List Nat := 0 :: ((((((((((((((([] ++ ([1, 2] : List Nat)) ++ ([3, 4, 5, 6, 7, 8, 9] : List Nat)) ++ ([10, 11, 12, 13, 14] : List Nat)) ++ ([15, 16, 17, 18] : List Nat)) ++ ([19] : List Nat)) ++ [20, 21, 22, 23, 24, 25, 26, 27, 28, 29, 30, 31, 32, 33, 34, 35]) ++ ([36, 37, 38] : List Nat)) ++ ([39, 40, 41] : List Nat)) ++ ([42, 43, 44] : List Nat)) ++ ([165, 166] ++ kPS 40)) ++ ([167, 168, 169] : List Nat)) ++ ([170, 171, 172, 173, 176, 177, 178, 179, 180, 181, 182, 183, 184, 185, 186, 187, 188, 189, 190, 191, 192, 193, 194, 195, 196, 174, 175] : List Nat)) ++ ([197] : List Nat)) ++ ([198] : List Nat)) ++ ([199] : List Nat))
theorem kwC_eq_c {cy : Nat → ClassId} {g : Nat → Nat} : ((g 0), .inr (11, [.ref (g 1), .ref (g 3), .ref (g 10), .ref (g 15), .ref (g 19), .int 0, .int (-1), .ref (g 36), .ref (g 39), .ref (g 42), .int 0, .ref (g 165), .ref (g 167), .ref (g 170), .ref (g 197), .ref (g 198), .ref (g 199), .long 0])) = kf cy g 0 := rfl
theorem kwC_eq {cy : Nat → ClassId} {g : Nat → Nat} : kwC cy (g 0) (g 1) (g 2) (g 3) (g 4) (g 5) (g 6) (g 7) (g 8) (g 9) (g 10) (g 11) (g 12) (g 13) (g 14) (g 15) (g 16) (g 17) (g 18) (g 19) (fun i => (g (20 + 4 * i), g (21 + 4 * i), g (22 + 4 * i), g (23 + 4 * i))) (g 36) (g 37) (g 38) (g 39) (g 40) (g 41) (g 42) (g 43) (g 44) (g 165) (g 166) (fun i => (g (45 + 3 * i), g (46 + 3 * i), g (47 + 3 * i))) (g 167) (g 168) (g 169) (g 170) (g 171) (g 172) (g 173) (g 174) (g 175) (fun i => g (176 + i)) (g 197) (g 198) (g 199) = kwC_eq_L.map (kf cy g) := kco kwC_eq_c (kap (kap (kap (kap (kap (kap (kap (kap (kap (kap (kap (kap (kap (kap (kap kni kwC_eq_0) kwC_eq_1) kwC_eq_2) kwC_eq_3) kwC_eq_4) kwC_eq_5) kwC_eq_6) kwC_eq_7) kwC_eq_8) kwC_eq_9) kwC_eq_10) kwC_eq_11) kwC_eq_12) kwC_eq_13) kwC_eq_14)
set_option maxRecDepth 20000 in
theorem kwM_eq_0 {cy : Nat → ClassId} {g : Nat → Nat} : (([((g 201), .inl (cy 23, 160, .inl (fun _ => 0)))] : va_W) : va_W) = ([201] : List Nat).map (kf cy g) := rfl
set_option maxRecDepth 20000 in
theorem kwM_eq_1 {cy : Nat → ClassId} {g : Nat → Nat} : (([((g 202), .inl (cy 23, 640, .inl (fun _ => 0)))] : va_W) : va_W) = ([202] : List Nat).map (kf cy g) := rfl
set_option maxRecDepth 20000 in
theorem kwM_eq_2 {cy : Nat → ClassId} {g : Nat → Nat} : (([((g 203), .inl (cy 20, 4, .inl (fun _ => 0)))] : va_W) : va_W) = ([203] : List Nat).map (kf cy g) := rfl
set_option maxRecDepth 20000 in
theorem kwM_eq_3 {cy : Nat → ClassId} {g : Nat → Nat} : (([((g 204), .inl (cy 20, 128, .inl (fun _ => 0)))] : va_W) : va_W) = ([204] : List Nat).map (kf cy g) := rfl
set_option maxRecDepth 20000 in
theorem kwM_eq_4 {cy : Nat → ClassId} {g : Nat → Nat} : (([((g 205), .inl (cy 20, 3, .inl (fun _ => 0)))] : va_W) : va_W) = ([205] : List Nat).map (kf cy g) := rfl
set_option maxRecDepth 20000 in
theorem kwM_eq_5 {cy : Nat → ClassId} {g : Nat → Nat} : (([((g 206), .inl (cy 20, 3, .inl (fun _ => 0)))] : va_W) : va_W) = ([206] : List Nat).map (kf cy g) := rfl
set_option maxRecDepth 20000 in
theorem kwM_eq_6 {cy : Nat → ClassId} {g : Nat → Nat} : (([((g 207), .inl (cy 20, 8, .inl (fun _ => 0)))] : va_W) : va_W) = ([207] : List Nat).map (kf cy g) := rfl
set_option maxRecDepth 20000 in
theorem kwM_eq_7 {cy : Nat → ClassId} {g : Nat → Nat} : (([((g 208), .inl (cy 20, 8, .inl (fun _ => 0)))] : va_W) : va_W) = ([208] : List Nat).map (kf cy g) := rfl
set_option maxRecDepth 20000 in
theorem kwM_eq_8 {cy : Nat → ClassId} {g : Nat → Nat} : (([((g 209), .inl (cy 20, 8, .inl (fun _ => 0)))] : va_W) : va_W) = ([209] : List Nat).map (kf cy g) := rfl
set_option maxRecDepth 20000 in
theorem kwM_eq_9 {cy : Nat → ClassId} {g : Nat → Nat} : (([((g 210), .inl (cy 20, 8, .inl (fun _ => 0)))] : va_W) : va_W) = ([210] : List Nat).map (kf cy g) := rfl
set_option maxRecDepth 20000 in
theorem kwM_eq_10 {cy : Nat → ClassId} {g : Nat → Nat} : (([((g 211), .inl (cy 20, 20, .inl (fun _ => 0)))] : va_W) : va_W) = ([211] : List Nat).map (kf cy g) := rfl
set_option maxRecDepth 20000 in
theorem kwM_eq_11 {cy : Nat → ClassId} {g : Nat → Nat} : (([((g 212), .inl (cy 20, 20, .inl (fun _ => 0)))] : va_W) : va_W) = ([212] : List Nat).map (kf cy g) := rfl
set_option maxRecDepth 20000 in
theorem kwM_eq_12 {cy : Nat → ClassId} {g : Nat → Nat} : (([((g 213), .inl (cy 20, 3, .inl (fun _ => 0)))] : va_W) : va_W) = ([213] : List Nat).map (kf cy g) := rfl
set_option maxRecDepth 20000 in
theorem kwM_eq_13 {cy : Nat → ClassId} {g : Nat → Nat} : (([((g 214), .inl (cy 20, 800, .inl (fun _ => 0)))] : va_W) : va_W) = ([214] : List Nat).map (kf cy g) := rfl
set_option maxRecDepth 20000 in
theorem kwM_eq_14 {cy : Nat → ClassId} {g : Nat → Nat} : (([((g 215), .inl (cy 20, 800, .inl (fun _ => 0)))] : va_W) : va_W) = ([215] : List Nat).map (kf cy g) := rfl
set_option maxRecDepth 20000 in
theorem kwM_eq_15 {cy : Nat → ClassId} {g : Nat → Nat} : (([((g 216), .inl (cy 20, 120, .inl (fun _ => 0)))] : va_W) : va_W) = ([216] : List Nat).map (kf cy g) := rfl
set_option maxRecDepth 20000 in
theorem kwM_eq_16 {cy : Nat → ClassId} {g : Nat → Nat} : (([((g 217), .inl (cy 21, 21, .inr (.inl (fun _ => 0))))] : va_W) : va_W) = ([217] : List Nat).map (kf cy g) := rfl
set_option maxRecDepth 20000 in
theorem kwM_eq_17 {cy : Nat → ClassId} {g : Nat → Nat} : (([((g 218), .inl (cy 21, 441, .inr (.inl (fun _ => 0))))] : va_W) : va_W) = ([218] : List Nat).map (kf cy g) := rfl
set_option maxRecDepth 20000 in
theorem kwM_eq_18 {cy : Nat → ClassId} {g : Nat → Nat} : (([((g 219), .inl (cy 21, 21, .inr (.inl (fun _ => 0))))] : va_W) : va_W) = ([219] : List Nat).map (kf cy g) := rfl
set_option maxRecDepth 20000 in
theorem kwM_eq_19 {cy : Nat → ClassId} {g : Nat → Nat} : (([((g 220), .inl (cy 21, 21, .inr (.inl (fun _ => 0))))] : va_W) : va_W) = ([220] : List Nat).map (kf cy g) := rfl
set_option maxRecDepth 20000 in
theorem kwM_eq_20 {cy : Nat → ClassId} {g : Nat → Nat} : (([((g 221), .inl (cy 20, 21, .inl (fun _ => 0)))] : va_W) : va_W) = ([221] : List Nat).map (kf cy g) := rfl
set_option maxRecDepth 20000 in
theorem kwM_eq_21 {cy : Nat → ClassId} {g : Nat → Nat} : (([((g 222), .inl (cy 20, 20, .inl (fun _ => 0)))] : va_W) : va_W) = ([222] : List Nat).map (kf cy g) := rfl
set_option maxRecDepth 20000 in
theorem kwM_eq_22 {cy : Nat → ClassId} {g : Nat → Nat} : (([((g 223), .inl (cy 20, 12, .inl (fun _ => 0)))] : va_W) : va_W) = ([223] : List Nat).map (kf cy g) := rfl
set_option maxRecDepth 20000 in
theorem kwM_eq_23 {cy : Nat → ClassId} {g : Nat → Nat} : (([((g 224), .inl (cy 21, 4096, .inr (.inl (fun _ => 0))))] : va_W) : va_W) = ([224] : List Nat).map (kf cy g) := rfl
set_option maxRecDepth 20000 in
theorem kwM_eq_24 {cy : Nat → ClassId} {g : Nat → Nat} : (([((g 225), .inl (cy 20, 20, .inl (fun _ => 0)))] : va_W) : va_W) = ([225] : List Nat).map (kf cy g) := rfl
set_option maxRecDepth 20000 in
theorem kwM_eq_25 {cy : Nat → ClassId} {g : Nat → Nat} : (([((g 226), .inl (cy 20, 20, .inl (fun _ => 0)))] : va_W) : va_W) = ([226] : List Nat).map (kf cy g) := rfl
set_option maxRecDepth 20000 in
theorem kwM_eq_26 {cy : Nat → ClassId} {g : Nat → Nat} : (([((g 227), .inl (cy 20, 3, .inl (fun _ => 0)))] : va_W) : va_W) = ([227] : List Nat).map (kf cy g) := rfl
def kwM_eq_L : List Nat := 200 :: ((((((((((((((((((((((((((([] ++ ([201] : List Nat)) ++ ([202] : List Nat)) ++ ([203] : List Nat)) ++ ([204] : List Nat)) ++ ([205] : List Nat)) ++ ([206] : List Nat)) ++ ([207] : List Nat)) ++ ([208] : List Nat)) ++ ([209] : List Nat)) ++ ([210] : List Nat)) ++ ([211] : List Nat)) ++ ([212] : List Nat)) ++ ([213] : List Nat)) ++ ([214] : List Nat)) ++ ([215] : List Nat)) ++ ([216] : List Nat)) ++ ([217] : List Nat)) ++ ([218] : List Nat)) ++ ([219] : List Nat)) ++ ([220] : List Nat)) ++ ([221] : List Nat)) ++ ([222] : List Nat)) ++ ([223] : List Nat)) ++ ([224] : List Nat)) ++ ([225] : List Nat)) ++ ([226] : List Nat)) ++ ([227] : List Nat))
theorem kwM_eq_c {cy : Nat → ClassId} {g : Nat → Nat} : ((g 200), .inr (12, [.int 0, .ref (g 201), .ref (g 202), .ref (g 203), .ref (g 204), .ref (g 201), .int 0, .int 0, .int 0, .int 0, .int 0, .int 0, .int 0, .int 0, .int 0, .ref (g (2000 + 4)), .ref (g (2000 + 3)), .int 0, .ref (g 205), .ref (g 206), .ref (g 207), .ref (g 208), .ref (g 209), .ref (g 210), .int 0, .int 0, .int 0, .int 0, .int 0, .ref (g 211), .ref (g 212), .ref (g 213), .int 0, .int (-1), .ref (g 214), .ref (g 215), .ref (g 216), .int 0, .long 0, .ref (g 217), .ref (g 218), .ref (g 219), .ref (g 220), .ref (g 221), .int 0, .int 0, .ref (g 222), .ref (g 223), .ref (g 224), .int 0, .int 0, .ref (g 225), .ref (g 226), .ref (g 227), .int 0])) = kf cy g 200 := rfl
theorem kwM_eq {cy : Nat → ClassId} {g : Nat → Nat} : kwM cy g (g 200) (g 201) (g 202) (g 203) (g 204) (g 205) (g 206) (g 207) (g 208) (g 209) (g 210) (g 211) (g 212) (g 213) (g 214) (g 215) (g 216) (g 217) (g 218) (g 219) (g 220) (g 221) (g 222) (g 223) (g 224) (g 225) (g 226) (g 227) = kwM_eq_L.map (kf cy g) := kco kwM_eq_c (kap (kap (kap (kap (kap (kap (kap (kap (kap (kap (kap (kap (kap (kap (kap (kap (kap (kap (kap (kap (kap (kap (kap (kap (kap (kap (kap kni kwM_eq_0) kwM_eq_1) kwM_eq_2) kwM_eq_3) kwM_eq_4) kwM_eq_5) kwM_eq_6) kwM_eq_7) kwM_eq_8) kwM_eq_9) kwM_eq_10) kwM_eq_11) kwM_eq_12) kwM_eq_13) kwM_eq_14) kwM_eq_15) kwM_eq_16) kwM_eq_17) kwM_eq_18) kwM_eq_19) kwM_eq_20) kwM_eq_21) kwM_eq_22) kwM_eq_23) kwM_eq_24) kwM_eq_25) kwM_eq_26)
theorem kPS_all : ∀ p, p < 228 → p ∈ kwC_eq_L ++ kwM_eq_L := by decide +kernel
