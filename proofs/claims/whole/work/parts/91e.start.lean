theorem in_c9 : Cond.classLink RL 7 RX9 ∈ lw_tbl := by decide +kernel
theorem in_c10 : Cond.classLink RL 10 RX10 ∈ lw_tbl := by decide +kernel
theorem in_t9 : Cond.initialized RX9 ∈ lw_tbl := by decide +kernel
theorem in_t10 : Cond.initialized RX10 ∈ lw_tbl := by decide +kernel
theorem in_l9 : Cond.methodLink RL 9 yX9_init ∈ lw_tbl := by decide +kernel
theorem in_l10 : Cond.methodLink RL 12 yX10_init ∈ lw_tbl := by decide +kernel
theorem in_m9 : Cond.instanceMethod yX9_init ∈ lw_tbl := by decide +kernel
theorem in_m10 : Cond.instanceMethod yX10_init ∈ lw_tbl := by decide +kernel
set_option maxRecDepth 100000 in
set_option maxHeartbeats 16000000 in
theorem whole_open {p : Program} {e : Env} {s : State} {m : MethodId} {below : List Frame} {meth : Method} {c : Code} (l : Launch) {b L : Nat} {xs : Nat → Int32} (hL : L ≤ 3584) (C0 : lw_At p s m meth c b L xs) (M0 : MS_land Inv) (M1 : MS_cell Inv) (M2 : MS_level Inv) (M3 : MS_warmth Inv) (M4 : MS_wind Inv) (M5 : MS_fly Inv) (M6 : MS_go Inv) (M7 : MS_about Inv) (M8 : MS_distance Inv) (M9 : MS_plan Inv) (M10 : MS_away Inv) (M11 : MS_order Inv) (M12 : MS_entry Inv) (M13 : MS_lose Inv) (M14 : MS_judge Inv) (M15 : MS_ways Inv) (M16 : MS_chaser Inv) (M17 : MS_chase Inv) (M18 : MS_first Inv) (M19 : MS_record Inv) (M20 : MS_count Inv) (M21 : MS_digest Inv) : W p l e room_1 s m #[Value.ref b] below meth c s.heap [] 0 0 (lw_Z below #[Value.ref b] s) (entryFrame m ([Value.ref b] : List Value).toArray 4) := by
  obtain ⟨hx, hb, hr, hml, hown, hts0, hX, hbl, hlocks, hgv⟩ := id C0
  obtain ⟨D, cy, hCn⟩ := start_K hts0
  obtain ⟨tx, ty, ⟨zx, tx1⟩, zy, ty1⟩ := start_Z hts0 hgv
  have hts : ∀ w ∈ wsL_law, w.before #[Value.ref b] s = true := fun w h => hts0 w (wsL_law_in w h)
  have SL : CallFix p m c cL_law 4 s #[Value.ref b] wsL_law RL := ⟨hx, hb, hml, hown, hts⟩
  have hA : ∀ q : Nat, s.heap.size ≤ q → aw s q := fun _ h => h
  have hS : va_S (aw s) s.heap s.heap [] := va_S.rf
  have hP : va_P D vwCl ([] ++ []) s.heap := fun k q h => by simp at h
  have hD : va_D (aw s) ([] ++ []) := ⟨fun i j p q h => by simp at h, fun k q h => by simp at h⟩
  have hl := lv_entry ([.ref b]) (n := 4) (Nat.le_of_ble_eq_true rfl)
  rw [lg_entry_eq]
  generalize (lg_sl ([.ref b]) ++ List.replicate (4 - (lg_sl ([.ref b])).length) Slot.unset).toArray = ls at hl ⊢
  have hl : lv_has ls 4 [(0, .ref b)] := hl
  refine va_new (D := D) (ci := 9) (fs := [.null, .null, .null, .null, .int 0, .null, .null, .null]) (C := RX9) (T := TX9) (N := 8) hx hb hts0 inX9 tyX9 tyX9_ok hown (hts0 _ in_c9) (hts0 _ in_i9) (hts0 _ in_t9) hCn.1 hP hD hS hA rfl df_X9 (Nat.le_of_ble_eq_true rfl) (Nat.le_of_ble_eq_true rfl) dL_law_0 (fun q0 H hP hD hS => ?_)
  replace hP := hP.perm va_nw
  replace hD := hD.perm va_nw
  refine lv_dup hx hb dL_law_3 rfl ?_
  refine r_ocall (E := []) (T := []) (r_orunI (E := []) (T := []) (As := []) (rest := [.ref q0]) SL hCn (n_X9 l D cy q0 H.size) (cwI 0 hts gL_law_X9_init rfl rfl rfl (hts0 _ in_t9) (hts0 _ in_l9) (hts0 _ in_m9) rfl (by decide +kernel) ⟨Nat.le_of_ble_eq_true rfl, Nat.le_of_ble_eq_true rfl⟩) hP rfl hl.1 rfl (Nat.le_of_ble_eq_true rfl) ⟨Nat.le_of_ble_eq_true rfl, Nat.le_of_ble_eq_true rfl⟩ dL_law_4) hP hD hS hA (fun u0 H locs hP hD hS => ?_)
  refine lv_astore_n (lv' := [(1, .ref q0), (0, .ref b)]) hx hb dL_law_7 rfl hl (by decide) rfl (fun ls hl => ?_)
  obtain ⟨T, hT⟩ : ∃ T : va_W, T = wX9 cy q0 u0 ++ [] := ⟨_, rfl⟩
  have hP : va_P D vwCl ([] ++ T) H := by rw [hT]; exact hP
  have hD : va_D (aw s) ([] ++ T) := by rw [hT]; exact hD
  refine va_new (D := D) (ci := 10) (fs := [.int 0, .int 0, .null, .null, .null, .null, .null, .null, .int 0, .null, .null, .null, .null, .null, .null, .null, .null, .null, .null, .null, .null, .null, .null, .int 0, .null, .null, .null, .null, .int 0, .int 0, .int 0, .int 0, .int 0, .int 0, .int 0, .null, .null, .null, .null, .int 0, .int 0, .null, .null]) (C := RX10) (T := TX10) (N := 43) hx hb hts0 inX10 tyX10 tyX10_ok hown (hts0 _ in_c10) (hts0 _ in_i10) (hts0 _ in_t10) hCn.1 hP hD hS hA rfl df_X10 (Nat.le_of_ble_eq_true rfl) (Nat.le_of_ble_eq_true rfl) dL_law_8 (fun q1 H hP hD hS => ?_)
  replace hP := hP.perm va_nw
  replace hD := hD.perm va_nw
  refine lv_dup hx hb dL_law_11 rfl ?_
  refine r_ocall (E := []) (T := T) (r_orunI (E := []) (T := T) (As := []) (rest := [.ref q1]) SL hCn (n_X10 l D cy q1 H.size) (cwI 0 hts gL_law_X10_init rfl rfl rfl (hts0 _ in_t10) (hts0 _ in_l10) (hts0 _ in_m10) rfl (by decide +kernel) ⟨Nat.le_of_ble_eq_true rfl, Nat.le_of_ble_eq_true rfl⟩) hP rfl hl.1 rfl (Nat.le_of_ble_eq_true rfl) ⟨Nat.le_of_ble_eq_true rfl, Nat.le_of_ble_eq_true rfl⟩ dL_law_12) hP hD hS hA (fun u1 H locs hP hD hS => ?_)
  refine lv_astore_n (lv' := [(2, .ref q1), (1, .ref q0), (0, .ref b)]) hx hb dL_law_15 rfl hl (by decide) rfl (fun ls hl => ?_)
  refine lv_iconst (v := 0) hx hb dL_law_16 (by decide) ?_
  refine lv_istore_n (lv' := [(3, .int 0), (2, .ref q1), (1, .ref q0), (0, .ref b)]) hx hb dL_law_17 rfl hl (by decide) rfl (fun ls hl => ?_)
  have hP2 : va_P D vwCl (wX10 cy q1 u1 ++ (wX9 cy q0 u0 ++ [])) H := by rw [← hT]; exact hP
  have hD2 : va_D (aw s) (wX10 cy q1 u1 ++ (wX9 cy q0 u0 ++ [])) := by rw [← hT]; exact hD
  obtain ⟨hP3, hD3⟩ := world_0 (tx := tx) (ty := ty) hP2 hD2
  have hE : Ev (G0 D cy q0 q1 u0 u1 tx ty) (aw s) s := ⟨hCn.1, ⟨zx, tx1, zy, ty1⟩, hCn.2.1⟩
  exact law_loop (G := G0 D cy q0 q1 u0 u1 tx ty) hL C0 hE M0 M1 M2 M3 M4 M5 M6 M7 M8 M9 M10 M11 M12 M13 M14 M15 M16 M17 M18 M19 M20 M21 ⟨Nat.le_of_ble_eq_true rfl, Nat.le_of_ble_eq_true rfl⟩ (L + 8) 0 (by omega) (by omega) s0 H locs ls Inv_0 ⟨hP3, hD3, hS, ⟨rfl, rfl⟩⟩ (lv_sub hl [3, 2, 1, 0] rfl)
