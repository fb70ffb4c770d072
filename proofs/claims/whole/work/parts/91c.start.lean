def pk0 : List Nat := [32, 101, 102, 70, 71, 72, 73, 74, 75, 76, 77, 78, 79, 31, 100, 89, 90, 91, 92, 80, 81, 82, 83, 84, 85, 86, 87, 88, 65, 66, 67, 68, 69, 93, 94, 95, 96, 97, 98, 99, 61, 62, 63, 64, 57, 58, 59, 60, 53, 54, 55, 56, 49, 50, 51, 52, 45, 46, 47, 48, 41, 42, 43, 44, 37, 38, 39, 40, 33, 34, 35, 36, 2, 30, 1, 0, 29, 28, 27, 26, 25, 24, 23, 22, 21, 20, 19, 18, 17, 16, 15, 14, 13, 12, 11, 10, 9, 8, 7, 6, 5, 4, 3]
def G0 (D : va_G) (cy : Nat → ClassId) (q0 q1 : Nat) (u0 u1 : Nat → Nat) (tx ty : Nat) : Gp := (D, cy, (fun k => ([q0, (u0 69), (u0 70), (u0 38), (u0 39), (u0 40), (u0 41), (u0 42), (u0 43), (u0 44), (u0 45), (u0 46), (u0 47), (u0 0), (u0 68), (u0 57), (u0 58), (u0 59), (u0 60), (u0 48), (u0 49), (u0 50), (u0 51), (u0 52), (u0 53), (u0 54), (u0 55), (u0 56), (u0 33), (u0 34), (u0 35), (u0 36), (u0 37), (u0 61), (u0 62), (u0 63), (u0 64), (u0 65), (u0 66), (u0 67), (u0 29), (u0 30), (u0 31), (u0 32), (u0 25), (u0 26), (u0 27), (u0 28), (u0 21), (u0 22), (u0 23), (u0 24), (u0 17), (u0 18), (u0 19), (u0 20), (u0 13), (u0 14), (u0 15), (u0 16), (u0 9), (u0 10), (u0 11), (u0 12), (u0 5), (u0 6), (u0 7), (u0 8), (u0 1), (u0 2), (u0 3), (u0 4), q1, (u1 29), (u1 1), (u1 0), (u1 28), (u1 27), (u1 26), (u1 25), (u1 24), (u1 23), (u1 22), (u1 21), (u1 20), (u1 19), (u1 18), (u1 17), (u1 16), (u1 15), (u1 14), (u1 13), (u1 12), (u1 11), (u1 10), (u1 9), (u1 8), (u1 7), (u1 6), (u1 5), (u1 4), (u1 3), (u1 2)] : List Nat).getD k 0), tx, ty)
theorem pk_inj : ∀ i, i < 103 → ∀ j, j < 103 → pk0.getD i 0 = pk0.getD j 0 → i = j := by decide +kernel
theorem arr_q {cA : ClassId} {n : Nat} {f g : Nat → Option Nat} (h : ∀ j, j < n → f j = g j) : vp_cell cA (n, .inr (.inr (.inr (.inr f)))) = vp_cell cA (n, .inr (.inr (.inr (.inr g)))) := by
  rw [vp_cell_q, vp_cell_q]
  unfold arrV
  congr 1
  apply Array.ext
  · simp
  · intro i h1 h2
    simp at h1 ⊢
    rw [h i (by simpa using h1)]
set_option maxRecDepth 100000 in
set_option maxHeartbeats 16000000 in
theorem cells_0 {D : va_G} {cy : Nat → ClassId} {q0 q1 : Nat} {u0 u1 : Nat → Nat} {tx ty : Nat} {H : Heap} (hP : va_P D vwCl (wX10 cy q1 u1 ++ (wX9 cy q0 u0 ++ [])) H) : ∀ k, k < 103 → k ≠ 13 → k ≠ 16 → ∃ E : va_E, (wX10 cy q1 u1 ++ (wX9 cy q0 u0 ++ []))[pk0.getD k 0]? = some (ad (G0 D cy q0 q1 u0 u1 tx ty) k, E) ∧ va_at D vwCl (ad (G0 D cy q0 q1 u0 u1 tx ty) k, ent (G0 D cy q0 q1 u0 u1 tx ty) (s00 k) (20, 24) k) H := by
  intro k hk n1 n2
  match k, hk with
  | 0, _ => exact ⟨_, rfl, hP 32 _ rfl⟩
  | 1, _ => exact ⟨_, rfl, hP 101 _ rfl⟩
  | 2, _ => exact ⟨_, rfl, hP 102 _ rfl⟩
  | 3, _ => exact ⟨_, rfl, hP 70 _ rfl⟩
  | 4, _ => exact ⟨_, rfl, hP 71 _ rfl⟩
  | 5, _ => exact ⟨_, rfl, hP 72 _ rfl⟩
  | 6, _ => exact ⟨_, rfl, hP 73 _ rfl⟩
  | 7, _ => exact ⟨_, rfl, hP 74 _ rfl⟩
  | 8, _ => exact ⟨_, rfl, hP 75 _ rfl⟩
  | 9, _ => exact ⟨_, rfl, hP 76 _ rfl⟩
  | 10, _ => exact ⟨_, rfl, hP 77 _ rfl⟩
  | 11, _ => exact ⟨_, rfl, hP 78 _ rfl⟩
  | 12, _ => exact ⟨_, rfl, hP 79 _ rfl⟩
  | 13, _ => exact absurd rfl (by assumption)
  | 14, _ => exact ⟨_, rfl, hP 100 _ rfl⟩
  | 15, _ => exact ⟨_, rfl, hP 89 _ rfl⟩
  | 16, _ => exact absurd rfl (by assumption)
  | 17, _ => exact ⟨_, rfl, hP 91 _ rfl⟩
  | 18, _ => exact ⟨_, rfl, hP 92 _ rfl⟩
  | 19, _ => exact ⟨_, rfl, hP 80 _ rfl⟩
  | 20, _ => exact ⟨_, rfl, hP 81 _ rfl⟩
  | 21, _ => exact ⟨_, rfl, hP 82 _ rfl⟩
  | 22, _ => exact ⟨_, rfl, hP 83 _ rfl⟩
  | 23, _ => exact ⟨_, rfl, hP 84 _ rfl⟩
  | 24, _ => exact ⟨_, rfl, hP 85 _ rfl⟩
  | 25, _ => exact ⟨_, rfl, hP 86 _ rfl⟩
  | 26, _ => exact ⟨_, rfl, hP 87 _ rfl⟩
  | 27, _ => exact ⟨_, rfl, hP 88 _ rfl⟩
  | 28, _ => exact ⟨_, rfl, hP 65 _ rfl⟩
  | 29, _ => exact ⟨_, rfl, hP 66 _ rfl⟩
  | 30, _ => exact ⟨_, rfl, hP 67 _ rfl⟩
  | 31, _ => exact ⟨_, rfl, hP 68 _ rfl⟩
  | 32, _ => exact ⟨_, rfl, hP 69 _ rfl⟩
  | 33, _ => exact ⟨_, rfl, hP 93 _ rfl⟩
  | 34, _ => exact ⟨_, rfl, hP 94 _ rfl⟩
  | 35, _ => exact ⟨_, rfl, hP 95 _ rfl⟩
  | 36, _ => exact ⟨_, rfl, hP 96 _ rfl⟩
  | 37, _ => exact ⟨_, rfl, hP 97 _ rfl⟩
  | 38, _ => exact ⟨_, rfl, hP 98 _ rfl⟩
  | 39, _ => exact ⟨_, rfl, hP 99 _ rfl⟩
  | 40, _ => exact ⟨_, rfl, hP 61 _ rfl⟩
  | 41, _ => exact ⟨_, rfl, hP 62 _ rfl⟩
  | 42, _ => exact ⟨_, rfl, hP 63 _ rfl⟩
  | 43, _ => exact ⟨_, rfl, hP 64 _ rfl⟩
  | 44, _ => exact ⟨_, rfl, hP 57 _ rfl⟩
  | 45, _ => exact ⟨_, rfl, hP 58 _ rfl⟩
  | 46, _ => exact ⟨_, rfl, hP 59 _ rfl⟩
  | 47, _ => exact ⟨_, rfl, hP 60 _ rfl⟩
  | 48, _ => exact ⟨_, rfl, hP 53 _ rfl⟩
  | 49, _ => exact ⟨_, rfl, hP 54 _ rfl⟩
  | 50, _ => exact ⟨_, rfl, hP 55 _ rfl⟩
  | 51, _ => exact ⟨_, rfl, hP 56 _ rfl⟩
  | 52, _ => exact ⟨_, rfl, hP 49 _ rfl⟩
  | 53, _ => exact ⟨_, rfl, hP 50 _ rfl⟩
  | 54, _ => exact ⟨_, rfl, hP 51 _ rfl⟩
  | 55, _ => exact ⟨_, rfl, hP 52 _ rfl⟩
  | 56, _ => exact ⟨_, rfl, hP 45 _ rfl⟩
  | 57, _ => exact ⟨_, rfl, hP 46 _ rfl⟩
  | 58, _ => exact ⟨_, rfl, hP 47 _ rfl⟩
  | 59, _ => exact ⟨_, rfl, hP 48 _ rfl⟩
  | 60, _ => exact ⟨_, rfl, hP 41 _ rfl⟩
  | 61, _ => exact ⟨_, rfl, hP 42 _ rfl⟩
  | 62, _ => exact ⟨_, rfl, hP 43 _ rfl⟩
  | 63, _ => exact ⟨_, rfl, hP 44 _ rfl⟩
  | 64, _ => exact ⟨_, rfl, hP 37 _ rfl⟩
  | 65, _ => exact ⟨_, rfl, hP 38 _ rfl⟩
  | 66, _ => exact ⟨_, rfl, hP 39 _ rfl⟩
  | 67, _ => exact ⟨_, rfl, hP 40 _ rfl⟩
  | 68, _ => exact ⟨_, rfl, hP 33 _ rfl⟩
  | 69, _ => exact ⟨_, rfl, hP 34 _ rfl⟩
  | 70, _ => exact ⟨_, rfl, hP 35 _ rfl⟩
  | 71, _ => exact ⟨_, rfl, hP 36 _ rfl⟩
  | 72, _ => exact ⟨_, rfl, hP 2 _ rfl⟩
  | 73, _ => exact ⟨_, rfl, hP 30 _ rfl⟩
  | 74, _ => exact ⟨_, rfl, hP 1 _ rfl⟩
  | 75, _ => exact ⟨_, rfl, hP 0 _ rfl⟩
  | 76, _ => exact ⟨_, rfl, hP 29 _ rfl⟩
  | 77, _ => exact ⟨_, rfl, hP 28 _ rfl⟩
  | 78, _ => exact ⟨_, rfl, hP 27 _ rfl⟩
  | 79, _ => exact ⟨_, rfl, hP 26 _ rfl⟩
  | 80, _ => exact ⟨_, rfl, hP 25 _ rfl⟩
  | 81, _ => exact ⟨_, rfl, hP 24 _ rfl⟩
  | 82, _ => exact ⟨_, rfl, hP 23 _ rfl⟩
  | 83, _ => exact ⟨_, rfl, hP 22 _ rfl⟩
  | 84, _ => exact ⟨_, rfl, hP 21 _ rfl⟩
  | 85, _ => exact ⟨_, rfl, hP 20 _ rfl⟩
  | 86, _ => exact ⟨_, rfl, hP 19 _ rfl⟩
  | 87, _ => exact ⟨_, rfl, hP 18 _ rfl⟩
  | 88, _ => exact ⟨_, rfl, hP 17 _ rfl⟩
  | 89, _ => exact ⟨_, rfl, hP 16 _ rfl⟩
  | 90, _ => exact ⟨_, rfl, hP 15 _ rfl⟩
  | 91, _ => exact ⟨_, rfl, hP 14 _ rfl⟩
  | 92, _ => exact ⟨_, rfl, hP 13 _ rfl⟩
  | 93, _ => exact ⟨_, rfl, hP 12 _ rfl⟩
  | 94, _ => exact ⟨_, rfl, hP 11 _ rfl⟩
  | 95, _ => exact ⟨_, rfl, hP 10 _ rfl⟩
  | 96, _ => exact ⟨_, rfl, hP 9 _ rfl⟩
  | 97, _ => exact ⟨_, rfl, hP 8 _ rfl⟩
  | 98, _ => exact ⟨_, rfl, hP 7 _ rfl⟩
  | 99, _ => exact ⟨_, rfl, hP 6 _ rfl⟩
  | 100, _ => exact ⟨_, rfl, hP 5 _ rfl⟩
  | 101, _ => exact ⟨_, rfl, hP 4 _ rfl⟩
  | 102, _ => exact ⟨_, rfl, hP 3 _ rfl⟩
  | k + 103, hk => omega
