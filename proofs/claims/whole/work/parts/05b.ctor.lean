theorem moi_X1_init : Cond.methodLink RX1 3 objectInit ∈ wsX1_init := by decide +kernel
theorem mom_X1_init : Cond.instanceMethod objectInit ∈ wsX1_init := by decide +kernel
theorem moc_X1_init : Cond.code objectInit ⟨#[0xb1]⟩ 1 none ∈ wsX1_init := by decide +kernel
abbrev wX1 (cy : Nat → ClassId) (h0 : Nat) (u : Nat → Nat) : va_W := [(h0, .inr (1, [.int 0, .int 0, .int 0, .int 0, .int 0, .int 0, .int 0, .int 0]))]
set_option maxRecDepth 100000 in
set_option maxHeartbeats 8000000 in
theorem n_X1 (l : Launch) (D : va_G) (cy : Nat → ClassId) (h0 : Nat) (sz : Nat) : Kn l yX1_init wsX1_init 1 0 0 D cy sz [(h0, .inr (1, [.int 0, .int 0, .int 0, .int 0, .int 0, .int 0, .int 0, .int 0]))] (wX1 cy h0) [.ref h0] := by
  refine r_nstart (by decide) rfl rfl [.ref h0] (Nat.le_of_ble_eq_true rfl) ?_
  intro p e s m below meth c A S hr hlocks hin hCn hA hP hD ls hl
  have hl : lv_has ls 1 [(0, .ref h0)] := hl
  obtain ⟨hx, hb, hml, hown, hts⟩ := id S
  have hS : va_S A s.heap s.heap [] := va_S.rf
  refine lv_aload_n hx hb dX1_init_0 rfl (lv_at hl 0 rfl) ?_
  refine W.objInit hx hb hown (hts _ moi_X1_init) (hts _ mom_X1_init) (hts _ moc_X1_init) rfl (by rw [hml]; exact hl.1) rfl dX1_init_1 (Nat.le_of_ble_eq_true rfl) (Nat.le_of_ble_eq_true rfl) ?_
  refine W.eq (g2 := F0 m 4 ls []) rfl ?_
  refine W.widen (k := 0) (n := 0) (Nat.le_of_ble_eq_true rfl) (Nat.le_of_ble_eq_true rfl) ?_
  exact r_nret (w1 := wX1 cy h0) S hr hlocks (fun k => ([] : List Nat).getD k 0) (hP.sub [0] rfl) (hD.sub [0] (by decide) rfl) hS dX1_init_4
theorem moi_X8_init : Cond.methodLink RX8 3 objectInit ∈ wsX8_init := by decide +kernel
theorem mom_X8_init : Cond.instanceMethod objectInit ∈ wsX8_init := by decide +kernel
theorem moc_X8_init : Cond.code objectInit ⟨#[0xb1]⟩ 1 none ∈ wsX8_init := by decide +kernel
theorem maci_X8_init : Cond.arrayClass .int ∈ wsX8_init := by decide +kernel
theorem mf9_X8_init : Cond.fieldLink RX8 9 "GasVoyages$Winds" "dx" "[I" ∈ wsX8_init := by decide +kernel
set_option maxRecDepth 20000 in
theorem iw8_X8_init : ∀ w ∈ u_ws RX8 TX8 2, w ∈ wsX8_init := by decide +kernel
theorem mf15_X8_init : Cond.fieldLink RX8 15 "GasVoyages$Winds" "dy" "[I" ∈ wsX8_init := by decide +kernel
abbrev wX8 (cy : Nat → ClassId) (h0 : Nat) (u : Nat → Nat) : va_W := [(h0, .inr (8, [.ref (u 0), .ref (u 1)])), ((u 0), .inl (cy 0, 192, .inl (fun _ => 0))), ((u 1), .inl (cy 0, 192, .inl (fun _ => 0)))]
set_option maxRecDepth 100000 in
set_option maxHeartbeats 8000000 in
theorem n_X8 (l : Launch) (D : va_G) (cy : Nat → ClassId) (h0 : Nat) (sz : Nat) : Kn l yX8_init wsX8_init 1 2 384 D cy sz [(h0, .inr (8, [.null, .null]))] (wX8 cy h0) [.ref h0] := by
  refine r_nstart (by decide) rfl rfl [.ref h0] (Nat.le_of_ble_eq_true rfl) ?_
  intro p e s m below meth c A S hr hlocks hin hCn hA hP hD ls hl
  have hl : lv_has ls 1 [(0, .ref h0)] := hl
  obtain ⟨hx, hb, hml, hown, hts⟩ := id S
  have hS : va_S A s.heap s.heap [] := va_S.rf
  refine lv_aload_n hx hb dX8_init_0 rfl (lv_at hl 0 rfl) ?_
  refine W.objInit hx hb hown (hts _ moi_X8_init) (hts _ mom_X8_init) (hts _ moc_X8_init) rfl (by rw [hml]; exact hl.1) rfl dX8_init_1 (Nat.le_of_ble_eq_true rfl) (Nat.le_of_ble_eq_true rfl) ?_
  refine W.eq (g2 := F0 m 4 ls []) rfl ?_
  refine lv_aload_n hx hb dX8_init_4 rfl (lv_at hl 0 rfl) ?_
  refine lv_sipush (v := 192) hx hb dX8_init_5 (by decide) ?_
  refine r_newi (T := []) hx hb (hts _ maci_X8_init) hCn hP hD hS hA (N' := 192) (by decide) (by decide) (Nat.le_of_ble_eq_true rfl) (Nat.le_of_ble_eq_true rfl) (Nat.le_of_ble_eq_true rfl) dX8_init_8 (fun q0 H hP hD hS => ?_)
  have hP : va_P D vwCl ([(h0, .inr (8, [.null, .null])), (q0, .inl (cy 0, 192, .inl (fun _ => 0)))]) H := hP
  have hD : va_D A ([(h0, .inr (8, [.null, .null])), (q0, .inl (cy 0, 192, .inl (fun _ => 0)))]) := hD
  refine va_putF (D := D) (ci := 8) (v := .ref q0) (ty := .array .int) (C := RX8) (T := TX8) (N := 2) hx hb hts iw8_X8_init tyX8 tyX8_ok nmX8 hown hCn.1 hP hD hS 0 rfl rfl 0 (by decide) (hts _ mf9_X8_init) (fun _ h9 => h9) rfl hin rfl (by decide +kernel) rfl rfl (Nat.le_of_ble_eq_true rfl) dX8_init_10 (fun H locs hP hD hS => ?_)
  have hP : va_P D vwCl ([(h0, .inr (8, [.ref q0, .null])), (q0, .inl (cy 0, 192, .inl (fun _ => 0)))]) H := hP
  have hD : va_D A ([(h0, .inr (8, [.ref q0, .null])), (q0, .inl (cy 0, 192, .inl (fun _ => 0)))]) := hD
  refine lv_aload_n hx hb dX8_init_13 rfl (lv_at hl 0 rfl) ?_
  refine lv_sipush (v := 192) hx hb dX8_init_14 (by decide) ?_
  refine r_newi (T := []) hx hb (hts _ maci_X8_init) hCn hP hD hS hA (N' := 192) (by decide) (by decide) (Nat.le_of_ble_eq_true rfl) (Nat.le_of_ble_eq_true rfl) (Nat.le_of_ble_eq_true rfl) dX8_init_17 (fun q1 H hP hD hS => ?_)
  have hP : va_P D vwCl ([(h0, .inr (8, [.ref q0, .null])), (q0, .inl (cy 0, 192, .inl (fun _ => 0))), (q1, .inl (cy 0, 192, .inl (fun _ => 0)))]) H := hP
  have hD : va_D A ([(h0, .inr (8, [.ref q0, .null])), (q0, .inl (cy 0, 192, .inl (fun _ => 0))), (q1, .inl (cy 0, 192, .inl (fun _ => 0)))]) := hD
  refine va_putF (D := D) (ci := 8) (v := .ref q1) (ty := .array .int) (C := RX8) (T := TX8) (N := 2) hx hb hts iw8_X8_init tyX8 tyX8_ok nmX8 hown hCn.1 hP hD hS 0 rfl rfl 1 (by decide) (hts _ mf15_X8_init) (fun _ h9 => h9) rfl hin rfl (by decide +kernel) rfl rfl (Nat.le_of_ble_eq_true rfl) dX8_init_19 (fun H locs hP hD hS => ?_)
  have hP : va_P D vwCl ([(h0, .inr (8, [.ref q0, .ref q1])), (q0, .inl (cy 0, 192, .inl (fun _ => 0))), (q1, .inl (cy 0, 192, .inl (fun _ => 0)))]) H := hP
  have hD : va_D A ([(h0, .inr (8, [.ref q0, .ref q1])), (q0, .inl (cy 0, 192, .inl (fun _ => 0))), (q1, .inl (cy 0, 192, .inl (fun _ => 0)))]) := hD
  refine W.widen (k := 2) (n := 384) (Nat.le_of_ble_eq_true rfl) (Nat.le_of_ble_eq_true rfl) ?_
  exact r_nret (w1 := wX8 cy h0) S hr hlocks (fun k => ([q0, q1] : List Nat).getD k 0) (hP.sub [0, 1, 2] rfl) (hD.sub [0, 1, 2] (by decide) rfl) hS dX8_init_22
theorem moi_X4_init : Cond.methodLink RX4 3 objectInit ∈ wsX4_init := by decide +kernel
theorem mom_X4_init : Cond.instanceMethod objectInit ∈ wsX4_init := by decide +kernel
theorem moc_X4_init : Cond.code objectInit ⟨#[0xb1]⟩ 1 none ∈ wsX4_init := by decide +kernel
theorem maci_X4_init : Cond.arrayClass .int ∈ wsX4_init := by decide +kernel
theorem mf9_X4_init : Cond.fieldLink RX4 9 "GasVoyages$Front" "places" "[I" ∈ wsX4_init := by decide +kernel
set_option maxRecDepth 20000 in
theorem iw4_X4_init : ∀ w ∈ u_ws RX4 TX4 4, w ∈ wsX4_init := by decide +kernel
theorem mf15_X4_init : Cond.fieldLink RX4 15 "GasVoyages$Front" "clean" "[I" ∈ wsX4_init := by decide +kernel
theorem mf18_X4_init : Cond.fieldLink RX4 18 "GasVoyages$Front" "broken" "[I" ∈ wsX4_init := by decide +kernel
theorem mf21_X4_init : Cond.fieldLink RX4 21 "GasVoyages$Front" "size" "I" ∈ wsX4_init := by decide +kernel
abbrev wX4 (cy : Nat → ClassId) (h0 : Nat) (u : Nat → Nat) : va_W := [(h0, .inr (4, [.ref (u 0), .ref (u 1), .ref (u 2), .int 0])), ((u 0), .inl (cy 0, 4608, .inl (fun _ => 0))), ((u 1), .inl (cy 0, 4608, .inl (fun _ => 0))), ((u 2), .inl (cy 0, 4608, .inl (fun _ => 0)))]
set_option maxRecDepth 100000 in
set_option maxHeartbeats 8000000 in
theorem n_X4 (l : Launch) (D : va_G) (cy : Nat → ClassId) (h0 : Nat) (sz : Nat) : Kn l yX4_init wsX4_init 1 3 13824 D cy sz [(h0, .inr (4, [.null, .null, .null, .int 0]))] (wX4 cy h0) [.ref h0] := by
  refine r_nstart (by decide) rfl rfl [.ref h0] (Nat.le_of_ble_eq_true rfl) ?_
  intro p e s m below meth c A S hr hlocks hin hCn hA hP hD ls hl
  have hl : lv_has ls 1 [(0, .ref h0)] := hl
  obtain ⟨hx, hb, hml, hown, hts⟩ := id S
  have hS : va_S A s.heap s.heap [] := va_S.rf
  refine lv_aload_n hx hb dX4_init_0 rfl (lv_at hl 0 rfl) ?_
  refine W.objInit hx hb hown (hts _ moi_X4_init) (hts _ mom_X4_init) (hts _ moc_X4_init) rfl (by rw [hml]; exact hl.1) rfl dX4_init_1 (Nat.le_of_ble_eq_true rfl) (Nat.le_of_ble_eq_true rfl) ?_
  refine W.eq (g2 := F0 m 4 ls []) rfl ?_
  refine lv_aload_n hx hb dX4_init_4 rfl (lv_at hl 0 rfl) ?_
  refine lv_sipush (v := 4608) hx hb dX4_init_5 (by decide) ?_
  refine r_newi (T := []) hx hb (hts _ maci_X4_init) hCn hP hD hS hA (N' := 4608) (by decide) (by decide) (Nat.le_of_ble_eq_true rfl) (Nat.le_of_ble_eq_true rfl) (Nat.le_of_ble_eq_true rfl) dX4_init_8 (fun q0 H hP hD hS => ?_)
  have hP : va_P D vwCl ([(h0, .inr (4, [.null, .null, .null, .int 0])), (q0, .inl (cy 0, 4608, .inl (fun _ => 0)))]) H := hP
  have hD : va_D A ([(h0, .inr (4, [.null, .null, .null, .int 0])), (q0, .inl (cy 0, 4608, .inl (fun _ => 0)))]) := hD
  refine va_putF (D := D) (ci := 4) (v := .ref q0) (ty := .array .int) (C := RX4) (T := TX4) (N := 4) hx hb hts iw4_X4_init tyX4 tyX4_ok nmX4 hown hCn.1 hP hD hS 0 rfl rfl 0 (by decide) (hts _ mf9_X4_init) (fun _ h9 => h9) rfl hin rfl (by decide +kernel) rfl rfl (Nat.le_of_ble_eq_true rfl) dX4_init_10 (fun H locs hP hD hS => ?_)
  have hP : va_P D vwCl ([(h0, .inr (4, [.ref q0, .null, .null, .int 0])), (q0, .inl (cy 0, 4608, .inl (fun _ => 0)))]) H := hP
  have hD : va_D A ([(h0, .inr (4, [.ref q0, .null, .null, .int 0])), (q0, .inl (cy 0, 4608, .inl (fun _ => 0)))]) := hD
  refine lv_aload_n hx hb dX4_init_13 rfl (lv_at hl 0 rfl) ?_
  refine lv_sipush (v := 4608) hx hb dX4_init_14 (by decide) ?_
  refine r_newi (T := []) hx hb (hts _ maci_X4_init) hCn hP hD hS hA (N' := 4608) (by decide) (by decide) (Nat.le_of_ble_eq_true rfl) (Nat.le_of_ble_eq_true rfl) (Nat.le_of_ble_eq_true rfl) dX4_init_17 (fun q1 H hP hD hS => ?_)
  have hP : va_P D vwCl ([(h0, .inr (4, [.ref q0, .null, .null, .int 0])), (q0, .inl (cy 0, 4608, .inl (fun _ => 0))), (q1, .inl (cy 0, 4608, .inl (fun _ => 0)))]) H := hP
  have hD : va_D A ([(h0, .inr (4, [.ref q0, .null, .null, .int 0])), (q0, .inl (cy 0, 4608, .inl (fun _ => 0))), (q1, .inl (cy 0, 4608, .inl (fun _ => 0)))]) := hD
  refine va_putF (D := D) (ci := 4) (v := .ref q1) (ty := .array .int) (C := RX4) (T := TX4) (N := 4) hx hb hts iw4_X4_init tyX4 tyX4_ok nmX4 hown hCn.1 hP hD hS 0 rfl rfl 1 (by decide) (hts _ mf15_X4_init) (fun _ h9 => h9) rfl hin rfl (by decide +kernel) rfl rfl (Nat.le_of_ble_eq_true rfl) dX4_init_19 (fun H locs hP hD hS => ?_)
  have hP : va_P D vwCl ([(h0, .inr (4, [.ref q0, .ref q1, .null, .int 0])), (q0, .inl (cy 0, 4608, .inl (fun _ => 0))), (q1, .inl (cy 0, 4608, .inl (fun _ => 0)))]) H := hP
  have hD : va_D A ([(h0, .inr (4, [.ref q0, .ref q1, .null, .int 0])), (q0, .inl (cy 0, 4608, .inl (fun _ => 0))), (q1, .inl (cy 0, 4608, .inl (fun _ => 0)))]) := hD
  refine lv_aload_n hx hb dX4_init_22 rfl (lv_at hl 0 rfl) ?_
  refine lv_sipush (v := 4608) hx hb dX4_init_23 (by decide) ?_
  refine r_newi (T := []) hx hb (hts _ maci_X4_init) hCn hP hD hS hA (N' := 4608) (by decide) (by decide) (Nat.le_of_ble_eq_true rfl) (Nat.le_of_ble_eq_true rfl) (Nat.le_of_ble_eq_true rfl) dX4_init_26 (fun q2 H hP hD hS => ?_)
  have hP : va_P D vwCl ([(h0, .inr (4, [.ref q0, .ref q1, .null, .int 0])), (q0, .inl (cy 0, 4608, .inl (fun _ => 0))), (q1, .inl (cy 0, 4608, .inl (fun _ => 0))), (q2, .inl (cy 0, 4608, .inl (fun _ => 0)))]) H := hP
  have hD : va_D A ([(h0, .inr (4, [.ref q0, .ref q1, .null, .int 0])), (q0, .inl (cy 0, 4608, .inl (fun _ => 0))), (q1, .inl (cy 0, 4608, .inl (fun _ => 0))), (q2, .inl (cy 0, 4608, .inl (fun _ => 0)))]) := hD
  refine va_putF (D := D) (ci := 4) (v := .ref q2) (ty := .array .int) (C := RX4) (T := TX4) (N := 4) hx hb hts iw4_X4_init tyX4 tyX4_ok nmX4 hown hCn.1 hP hD hS 0 rfl rfl 2 (by decide) (hts _ mf18_X4_init) (fun _ h9 => h9) rfl hin rfl (by decide +kernel) rfl rfl (Nat.le_of_ble_eq_true rfl) dX4_init_28 (fun H locs hP hD hS => ?_)
  have hP : va_P D vwCl ([(h0, .inr (4, [.ref q0, .ref q1, .ref q2, .int 0])), (q0, .inl (cy 0, 4608, .inl (fun _ => 0))), (q1, .inl (cy 0, 4608, .inl (fun _ => 0))), (q2, .inl (cy 0, 4608, .inl (fun _ => 0)))]) H := hP
  have hD : va_D A ([(h0, .inr (4, [.ref q0, .ref q1, .ref q2, .int 0])), (q0, .inl (cy 0, 4608, .inl (fun _ => 0))), (q1, .inl (cy 0, 4608, .inl (fun _ => 0))), (q2, .inl (cy 0, 4608, .inl (fun _ => 0)))]) := hD
  refine lv_aload_n hx hb dX4_init_31 rfl (lv_at hl 0 rfl) ?_
  refine lv_iconst (v := 0) hx hb dX4_init_32 (by decide) ?_
  refine va_put (D := D) (ci := 4) (v := .int 0) (ty := .int) (C := RX4) (T := TX4) (N := 4) hx hb hts iw4_X4_init tyX4 tyX4_ok nmX4 hown hCn.1 hP hD hS 0 rfl rfl 3 (by decide) (hts _ mf21_X4_init) (fun _ h9 => h9) rfl (by decide +kernel) rfl rfl (Nat.le_of_ble_eq_true rfl) dX4_init_33 (fun H locs hP hD hS => ?_)
  have hP : va_P D vwCl ([(h0, .inr (4, [.ref q0, .ref q1, .ref q2, .int 0])), (q0, .inl (cy 0, 4608, .inl (fun _ => 0))), (q1, .inl (cy 0, 4608, .inl (fun _ => 0))), (q2, .inl (cy 0, 4608, .inl (fun _ => 0)))]) H := hP
  have hD : va_D A ([(h0, .inr (4, [.ref q0, .ref q1, .ref q2, .int 0])), (q0, .inl (cy 0, 4608, .inl (fun _ => 0))), (q1, .inl (cy 0, 4608, .inl (fun _ => 0))), (q2, .inl (cy 0, 4608, .inl (fun _ => 0)))]) := hD
  refine W.widen (k := 3) (n := 13824) (Nat.le_of_ble_eq_true rfl) (Nat.le_of_ble_eq_true rfl) ?_
  exact r_nret (w1 := wX4 cy h0) S hr hlocks (fun k => ([q0, q1, q2] : List Nat).getD k 0) (hP.sub [0, 1, 2, 3] rfl) (hD.sub [0, 1, 2, 3] (by decide) rfl) hS dX4_init_36
theorem moi_X5_init : Cond.methodLink RX5 3 objectInit ∈ wsX5_init := by decide +kernel
theorem mom_X5_init : Cond.instanceMethod objectInit ∈ wsX5_init := by decide +kernel
theorem moc_X5_init : Cond.code objectInit ⟨#[0xb1]⟩ 1 none ∈ wsX5_init := by decide +kernel
theorem mf9_X5_init : Cond.fieldLink RX5 9 "GasVoyages$Land" "w" "I" ∈ wsX5_init := by decide +kernel
set_option maxRecDepth 20000 in
theorem iw5_X5_init : ∀ w ∈ u_ws RX5 TX5 3, w ∈ wsX5_init := by decide +kernel
theorem mf15_X5_init : Cond.fieldLink RX5 15 "GasVoyages$Land" "h" "I" ∈ wsX5_init := by decide +kernel
theorem maci_X5_init : Cond.arrayClass .int ∈ wsX5_init := by decide +kernel
theorem mf18_X5_init : Cond.fieldLink RX5 18 "GasVoyages$Land" "kinds" "[I" ∈ wsX5_init := by decide +kernel
abbrev wX5 (cy : Nat → ClassId) (h0 : Nat) (u : Nat → Nat) : va_W := [(h0, .inr (5, [.int 12, .int 12, .ref (u 0)])), ((u 0), .inl (cy 0, 576, .inl (fun _ => 0)))]
set_option maxRecDepth 100000 in
set_option maxHeartbeats 8000000 in
theorem n_X5 (l : Launch) (D : va_G) (cy : Nat → ClassId) (h0 : Nat) (sz : Nat) : Kn l yX5_init wsX5_init 1 1 576 D cy sz [(h0, .inr (5, [.int 0, .int 0, .null]))] (wX5 cy h0) [.ref h0] := by
  refine r_nstart (by decide) rfl rfl [.ref h0] (Nat.le_of_ble_eq_true rfl) ?_
  intro p e s m below meth c A S hr hlocks hin hCn hA hP hD ls hl
  have hl : lv_has ls 1 [(0, .ref h0)] := hl
  obtain ⟨hx, hb, hml, hown, hts⟩ := id S
  have hS : va_S A s.heap s.heap [] := va_S.rf
  refine lv_aload_n hx hb dX5_init_0 rfl (lv_at hl 0 rfl) ?_
  refine W.objInit hx hb hown (hts _ moi_X5_init) (hts _ mom_X5_init) (hts _ moc_X5_init) rfl (by rw [hml]; exact hl.1) rfl dX5_init_1 (Nat.le_of_ble_eq_true rfl) (Nat.le_of_ble_eq_true rfl) ?_
  refine W.eq (g2 := F0 m 4 ls []) rfl ?_
  refine lv_aload_n hx hb dX5_init_4 rfl (lv_at hl 0 rfl) ?_
  refine lv_bipush (v := 12) hx hb dX5_init_5 (by decide) ?_
  refine va_put (D := D) (ci := 5) (v := .int 12) (ty := .int) (C := RX5) (T := TX5) (N := 3) hx hb hts iw5_X5_init tyX5 tyX5_ok nmX5 hown hCn.1 hP hD hS 0 rfl rfl 0 (by decide) (hts _ mf9_X5_init) (fun _ h9 => h9) rfl (by decide +kernel) rfl rfl (Nat.le_of_ble_eq_true rfl) dX5_init_7 (fun H locs hP hD hS => ?_)
  have hP : va_P D vwCl ([(h0, .inr (5, [.int 12, .int 0, .null]))]) H := hP
  have hD : va_D A ([(h0, .inr (5, [.int 12, .int 0, .null]))]) := hD
  refine lv_aload_n hx hb dX5_init_10 rfl (lv_at hl 0 rfl) ?_
  refine lv_bipush (v := 12) hx hb dX5_init_11 (by decide) ?_
  refine va_put (D := D) (ci := 5) (v := .int 12) (ty := .int) (C := RX5) (T := TX5) (N := 3) hx hb hts iw5_X5_init tyX5 tyX5_ok nmX5 hown hCn.1 hP hD hS 0 rfl rfl 1 (by decide) (hts _ mf15_X5_init) (fun _ h9 => h9) rfl (by decide +kernel) rfl rfl (Nat.le_of_ble_eq_true rfl) dX5_init_13 (fun H locs hP hD hS => ?_)
  have hP : va_P D vwCl ([(h0, .inr (5, [.int 12, .int 12, .null]))]) H := hP
  have hD : va_D A ([(h0, .inr (5, [.int 12, .int 12, .null]))]) := hD
  refine lv_aload_n hx hb dX5_init_16 rfl (lv_at hl 0 rfl) ?_
  refine lv_sipush (v := 576) hx hb dX5_init_17 (by decide) ?_
  refine r_newi (T := []) hx hb (hts _ maci_X5_init) hCn hP hD hS hA (N' := 576) (by decide) (by decide) (Nat.le_of_ble_eq_true rfl) (Nat.le_of_ble_eq_true rfl) (Nat.le_of_ble_eq_true rfl) dX5_init_20 (fun q0 H hP hD hS => ?_)
  have hP : va_P D vwCl ([(h0, .inr (5, [.int 12, .int 12, .null])), (q0, .inl (cy 0, 576, .inl (fun _ => 0)))]) H := hP
  have hD : va_D A ([(h0, .inr (5, [.int 12, .int 12, .null])), (q0, .inl (cy 0, 576, .inl (fun _ => 0)))]) := hD
  refine va_putF (D := D) (ci := 5) (v := .ref q0) (ty := .array .int) (C := RX5) (T := TX5) (N := 3) hx hb hts iw5_X5_init tyX5 tyX5_ok nmX5 hown hCn.1 hP hD hS 0 rfl rfl 2 (by decide) (hts _ mf18_X5_init) (fun _ h9 => h9) rfl hin rfl (by decide +kernel) rfl rfl (Nat.le_of_ble_eq_true rfl) dX5_init_22 (fun H locs hP hD hS => ?_)
  have hP : va_P D vwCl ([(h0, .inr (5, [.int 12, .int 12, .ref q0])), (q0, .inl (cy 0, 576, .inl (fun _ => 0)))]) H := hP
  have hD : va_D A ([(h0, .inr (5, [.int 12, .int 12, .ref q0])), (q0, .inl (cy 0, 576, .inl (fun _ => 0)))]) := hD
  refine W.widen (k := 1) (n := 576) (Nat.le_of_ble_eq_true rfl) (Nat.le_of_ble_eq_true rfl) ?_
  exact r_nret (w1 := wX5 cy h0) S hr hlocks (fun k => ([q0] : List Nat).getD k 0) (hP.sub [0, 1] rfl) (hD.sub [0, 1] (by decide) rfl) hS dX5_init_25
theorem moi_X2_init : Cond.methodLink RX2 3 objectInit ∈ wsX2_init := by decide +kernel
theorem mom_X2_init : Cond.instanceMethod objectInit ∈ wsX2_init := by decide +kernel
theorem moc_X2_init : Cond.code objectInit ⟨#[0xb1]⟩ 1 none ∈ wsX2_init := by decide +kernel
theorem maci_X2_init : Cond.arrayClass .int ∈ wsX2_init := by decide +kernel
theorem mf9_X2_init : Cond.fieldLink RX2 9 "GasVoyages$Chasers" "cells" "[I" ∈ wsX2_init := by decide +kernel
set_option maxRecDepth 20000 in
theorem iw2_X2_init : ∀ w ∈ u_ws RX2 TX2 6, w ∈ wsX2_init := by decide +kernel
theorem mf15_X2_init : Cond.fieldLink RX2 15 "GasVoyages$Chasers" "paces" "[I" ∈ wsX2_init := by decide +kernel
theorem mf18_X2_init : Cond.fieldLink RX2 18 "GasVoyages$Chasers" "number" "I" ∈ wsX2_init := by decide +kernel
theorem mf22_X2_init : Cond.fieldLink RX2 22 "GasVoyages$Chasers" "steps" "[I" ∈ wsX2_init := by decide +kernel
theorem mf25_X2_init : Cond.fieldLink RX2 25 "GasVoyages$Chasers" "queue" "[I" ∈ wsX2_init := by decide +kernel
theorem mf28_X2_init : Cond.fieldLink RX2 28 "GasVoyages$Chasers" "land" "LGasVoyages$Land;" ∈ wsX2_init := by decide +kernel
abbrev wX2 (cy : Nat → ClassId) (h0 a1 : Nat) (u : Nat → Nat) : va_W := [(h0, .inr (2, [.ref a1, .ref (u 0), .ref (u 1), .int 0, .ref (u 2), .ref (u 3)])), ((u 0), .inl (cy 0, 4, .inl (fun _ => 0))), ((u 1), .inl (cy 0, 4, .inl (fun _ => 0))), ((u 2), .inl (cy 0, 576, .inl (fun _ => 0))), ((u 3), .inl (cy 0, 576, .inl (fun _ => 0)))]
set_option maxRecDepth 100000 in
set_option maxHeartbeats 8000000 in
theorem n_X2 (l : Launch) (D : va_G) (cy : Nat → ClassId) (h0 a1 : Nat) (sz : Nat) : Kn l yX2_init wsX2_init 1 4 1160 D cy sz [(h0, .inr (2, [.null, .null, .null, .int 0, .null, .null]))] (wX2 cy h0 a1) [.ref h0, .ref a1] := by
  refine r_nstart (by decide) rfl rfl [.ref h0, .ref a1] (Nat.le_of_ble_eq_true rfl) ?_
  intro p e s m below meth c A S hr hlocks hin hCn hA hP hD ls hl
  have hl : lv_has ls 2 [(0, .ref h0), (1, .ref a1)] := hl
  obtain ⟨hx, hb, hml, hown, hts⟩ := id S
  have hS : va_S A s.heap s.heap [] := va_S.rf
  refine lv_aload_n hx hb dX2_init_0 rfl (lv_at hl 0 rfl) ?_
  refine W.objInit hx hb hown (hts _ moi_X2_init) (hts _ mom_X2_init) (hts _ moc_X2_init) rfl (by rw [hml]; exact hl.1) rfl dX2_init_1 (Nat.le_of_ble_eq_true rfl) (Nat.le_of_ble_eq_true rfl) ?_
  refine W.eq (g2 := F0 m 4 ls []) rfl ?_
  refine lv_aload_n hx hb dX2_init_4 rfl (lv_at hl 0 rfl) ?_
  refine lv_iconst (v := 4) hx hb dX2_init_5 (by decide) ?_
  refine r_newi (T := []) hx hb (hts _ maci_X2_init) hCn hP hD hS hA (N' := 4) (by decide) (by decide) (Nat.le_of_ble_eq_true rfl) (Nat.le_of_ble_eq_true rfl) (Nat.le_of_ble_eq_true rfl) dX2_init_6 (fun q0 H hP hD hS => ?_)
  have hP : va_P D vwCl ([(h0, .inr (2, [.null, .null, .null, .int 0, .null, .null])), (q0, .inl (cy 0, 4, .inl (fun _ => 0)))]) H := hP
  have hD : va_D A ([(h0, .inr (2, [.null, .null, .null, .int 0, .null, .null])), (q0, .inl (cy 0, 4, .inl (fun _ => 0)))]) := hD
  refine va_putF (D := D) (ci := 2) (v := .ref q0) (ty := .array .int) (C := RX2) (T := TX2) (N := 6) hx hb hts iw2_X2_init tyX2 tyX2_ok nmX2 hown hCn.1 hP hD hS 0 rfl rfl 1 (by decide) (hts _ mf9_X2_init) (fun _ h9 => h9) rfl hin rfl (by decide +kernel) rfl rfl (Nat.le_of_ble_eq_true rfl) dX2_init_8 (fun H locs hP hD hS => ?_)
  have hP : va_P D vwCl ([(h0, .inr (2, [.null, .ref q0, .null, .int 0, .null, .null])), (q0, .inl (cy 0, 4, .inl (fun _ => 0)))]) H := hP
  have hD : va_D A ([(h0, .inr (2, [.null, .ref q0, .null, .int 0, .null, .null])), (q0, .inl (cy 0, 4, .inl (fun _ => 0)))]) := hD
  refine lv_aload_n hx hb dX2_init_11 rfl (lv_at hl 0 rfl) ?_
  refine lv_iconst (v := 4) hx hb dX2_init_12 (by decide) ?_
  refine r_newi (T := []) hx hb (hts _ maci_X2_init) hCn hP hD hS hA (N' := 4) (by decide) (by decide) (Nat.le_of_ble_eq_true rfl) (Nat.le_of_ble_eq_true rfl) (Nat.le_of_ble_eq_true rfl) dX2_init_13 (fun q1 H hP hD hS => ?_)
  have hP : va_P D vwCl ([(h0, .inr (2, [.null, .ref q0, .null, .int 0, .null, .null])), (q0, .inl (cy 0, 4, .inl (fun _ => 0))), (q1, .inl (cy 0, 4, .inl (fun _ => 0)))]) H := hP
  have hD : va_D A ([(h0, .inr (2, [.null, .ref q0, .null, .int 0, .null, .null])), (q0, .inl (cy 0, 4, .inl (fun _ => 0))), (q1, .inl (cy 0, 4, .inl (fun _ => 0)))]) := hD
  refine va_putF (D := D) (ci := 2) (v := .ref q1) (ty := .array .int) (C := RX2) (T := TX2) (N := 6) hx hb hts iw2_X2_init tyX2 tyX2_ok nmX2 hown hCn.1 hP hD hS 0 rfl rfl 2 (by decide) (hts _ mf15_X2_init) (fun _ h9 => h9) rfl hin rfl (by decide +kernel) rfl rfl (Nat.le_of_ble_eq_true rfl) dX2_init_15 (fun H locs hP hD hS => ?_)
  have hP : va_P D vwCl ([(h0, .inr (2, [.null, .ref q0, .ref q1, .int 0, .null, .null])), (q0, .inl (cy 0, 4, .inl (fun _ => 0))), (q1, .inl (cy 0, 4, .inl (fun _ => 0)))]) H := hP
  have hD : va_D A ([(h0, .inr (2, [.null, .ref q0, .ref q1, .int 0, .null, .null])), (q0, .inl (cy 0, 4, .inl (fun _ => 0))), (q1, .inl (cy 0, 4, .inl (fun _ => 0)))]) := hD
  refine lv_aload_n hx hb dX2_init_18 rfl (lv_at hl 0 rfl) ?_
  refine lv_iconst (v := 0) hx hb dX2_init_19 (by decide) ?_
  refine va_put (D := D) (ci := 2) (v := .int 0) (ty := .int) (C := RX2) (T := TX2) (N := 6) hx hb hts iw2_X2_init tyX2 tyX2_ok nmX2 hown hCn.1 hP hD hS 0 rfl rfl 3 (by decide) (hts _ mf18_X2_init) (fun _ h9 => h9) rfl (by decide +kernel) rfl rfl (Nat.le_of_ble_eq_true rfl) dX2_init_20 (fun H locs hP hD hS => ?_)
  have hP : va_P D vwCl ([(h0, .inr (2, [.null, .ref q0, .ref q1, .int 0, .null, .null])), (q0, .inl (cy 0, 4, .inl (fun _ => 0))), (q1, .inl (cy 0, 4, .inl (fun _ => 0)))]) H := hP
  have hD : va_D A ([(h0, .inr (2, [.null, .ref q0, .ref q1, .int 0, .null, .null])), (q0, .inl (cy 0, 4, .inl (fun _ => 0))), (q1, .inl (cy 0, 4, .inl (fun _ => 0)))]) := hD
  refine lv_aload_n hx hb dX2_init_23 rfl (lv_at hl 0 rfl) ?_
  refine lv_sipush (v := 576) hx hb dX2_init_24 (by decide) ?_
  refine r_newi (T := []) hx hb (hts _ maci_X2_init) hCn hP hD hS hA (N' := 576) (by decide) (by decide) (Nat.le_of_ble_eq_true rfl) (Nat.le_of_ble_eq_true rfl) (Nat.le_of_ble_eq_true rfl) dX2_init_27 (fun q2 H hP hD hS => ?_)
  have hP : va_P D vwCl ([(h0, .inr (2, [.null, .ref q0, .ref q1, .int 0, .null, .null])), (q0, .inl (cy 0, 4, .inl (fun _ => 0))), (q1, .inl (cy 0, 4, .inl (fun _ => 0))), (q2, .inl (cy 0, 576, .inl (fun _ => 0)))]) H := hP
  have hD : va_D A ([(h0, .inr (2, [.null, .ref q0, .ref q1, .int 0, .null, .null])), (q0, .inl (cy 0, 4, .inl (fun _ => 0))), (q1, .inl (cy 0, 4, .inl (fun _ => 0))), (q2, .inl (cy 0, 576, .inl (fun _ => 0)))]) := hD
  refine va_putF (D := D) (ci := 2) (v := .ref q2) (ty := .array .int) (C := RX2) (T := TX2) (N := 6) hx hb hts iw2_X2_init tyX2 tyX2_ok nmX2 hown hCn.1 hP hD hS 0 rfl rfl 4 (by decide) (hts _ mf22_X2_init) (fun _ h9 => h9) rfl hin rfl (by decide +kernel) rfl rfl (Nat.le_of_ble_eq_true rfl) dX2_init_29 (fun H locs hP hD hS => ?_)
  have hP : va_P D vwCl ([(h0, .inr (2, [.null, .ref q0, .ref q1, .int 0, .ref q2, .null])), (q0, .inl (cy 0, 4, .inl (fun _ => 0))), (q1, .inl (cy 0, 4, .inl (fun _ => 0))), (q2, .inl (cy 0, 576, .inl (fun _ => 0)))]) H := hP
  have hD : va_D A ([(h0, .inr (2, [.null, .ref q0, .ref q1, .int 0, .ref q2, .null])), (q0, .inl (cy 0, 4, .inl (fun _ => 0))), (q1, .inl (cy 0, 4, .inl (fun _ => 0))), (q2, .inl (cy 0, 576, .inl (fun _ => 0)))]) := hD
  refine lv_aload_n hx hb dX2_init_32 rfl (lv_at hl 0 rfl) ?_
  refine lv_sipush (v := 576) hx hb dX2_init_33 (by decide) ?_
  refine r_newi (T := []) hx hb (hts _ maci_X2_init) hCn hP hD hS hA (N' := 576) (by decide) (by decide) (Nat.le_of_ble_eq_true rfl) (Nat.le_of_ble_eq_true rfl) (Nat.le_of_ble_eq_true rfl) dX2_init_36 (fun q3 H hP hD hS => ?_)
  have hP : va_P D vwCl ([(h0, .inr (2, [.null, .ref q0, .ref q1, .int 0, .ref q2, .null])), (q0, .inl (cy 0, 4, .inl (fun _ => 0))), (q1, .inl (cy 0, 4, .inl (fun _ => 0))), (q2, .inl (cy 0, 576, .inl (fun _ => 0))), (q3, .inl (cy 0, 576, .inl (fun _ => 0)))]) H := hP
  have hD : va_D A ([(h0, .inr (2, [.null, .ref q0, .ref q1, .int 0, .ref q2, .null])), (q0, .inl (cy 0, 4, .inl (fun _ => 0))), (q1, .inl (cy 0, 4, .inl (fun _ => 0))), (q2, .inl (cy 0, 576, .inl (fun _ => 0))), (q3, .inl (cy 0, 576, .inl (fun _ => 0)))]) := hD
  refine va_putF (D := D) (ci := 2) (v := .ref q3) (ty := .array .int) (C := RX2) (T := TX2) (N := 6) hx hb hts iw2_X2_init tyX2 tyX2_ok nmX2 hown hCn.1 hP hD hS 0 rfl rfl 5 (by decide) (hts _ mf25_X2_init) (fun _ h9 => h9) rfl hin rfl (by decide +kernel) rfl rfl (Nat.le_of_ble_eq_true rfl) dX2_init_38 (fun H locs hP hD hS => ?_)
  have hP : va_P D vwCl ([(h0, .inr (2, [.null, .ref q0, .ref q1, .int 0, .ref q2, .ref q3])), (q0, .inl (cy 0, 4, .inl (fun _ => 0))), (q1, .inl (cy 0, 4, .inl (fun _ => 0))), (q2, .inl (cy 0, 576, .inl (fun _ => 0))), (q3, .inl (cy 0, 576, .inl (fun _ => 0)))]) H := hP
  have hD : va_D A ([(h0, .inr (2, [.null, .ref q0, .ref q1, .int 0, .ref q2, .ref q3])), (q0, .inl (cy 0, 4, .inl (fun _ => 0))), (q1, .inl (cy 0, 4, .inl (fun _ => 0))), (q2, .inl (cy 0, 576, .inl (fun _ => 0))), (q3, .inl (cy 0, 576, .inl (fun _ => 0)))]) := hD
  refine lv_aload_n hx hb dX2_init_41 rfl (lv_at hl 0 rfl) ?_
  refine lv_aload_n hx hb dX2_init_42 rfl (lv_at hl 1 rfl) ?_
  refine va_putF (D := D) (ci := 2) (v := .ref a1) (ty := .object "GasVoyages$Land") (C := RX2) (T := TX2) (N := 6) hx hb hts iw2_X2_init tyX2 tyX2_ok nmX2 hown hCn.1 hP hD hS 0 rfl rfl 0 (by decide) (hts _ mf28_X2_init) (fun _ h9 => h9) rfl hin rfl (by decide +kernel) rfl rfl (Nat.le_of_ble_eq_true rfl) dX2_init_43 (fun H locs hP hD hS => ?_)
  have hP : va_P D vwCl ([(h0, .inr (2, [.ref a1, .ref q0, .ref q1, .int 0, .ref q2, .ref q3])), (q0, .inl (cy 0, 4, .inl (fun _ => 0))), (q1, .inl (cy 0, 4, .inl (fun _ => 0))), (q2, .inl (cy 0, 576, .inl (fun _ => 0))), (q3, .inl (cy 0, 576, .inl (fun _ => 0)))]) H := hP
  have hD : va_D A ([(h0, .inr (2, [.ref a1, .ref q0, .ref q1, .int 0, .ref q2, .ref q3])), (q0, .inl (cy 0, 4, .inl (fun _ => 0))), (q1, .inl (cy 0, 4, .inl (fun _ => 0))), (q2, .inl (cy 0, 576, .inl (fun _ => 0))), (q3, .inl (cy 0, 576, .inl (fun _ => 0)))]) := hD
  refine W.widen (k := 4) (n := 1160) (Nat.le_of_ble_eq_true rfl) (Nat.le_of_ble_eq_true rfl) ?_
  exact r_nret (w1 := wX2 cy h0 a1) S hr hlocks (fun k => ([q0, q1, q2, q3] : List Nat).getD k 0) (hP.sub [0, 1, 2, 3, 4] rfl) (hD.sub [0, 1, 2, 3, 4] (by decide) rfl) hS dX2_init_46
theorem moi_X3_init : Cond.methodLink RX3 3 objectInit ∈ wsX3_init := by decide +kernel
theorem mom_X3_init : Cond.instanceMethod objectInit ∈ wsX3_init := by decide +kernel
theorem moc_X3_init : Cond.code objectInit ⟨#[0xb1]⟩ 1 none ∈ wsX3_init := by decide +kernel
set_option maxRecDepth 20000 in
theorem iw1_X3_init : ∀ w ∈ u_ws RX1 TX1 8, w ∈ wsX3_init := by decide +kernel
theorem mcl9_X3_init : Cond.classLink RX3 9 RX1 ∈ wsX3_init := by decide +kernel
theorem min1_X3_init : Cond.instantiable RX1 8 ∈ wsX3_init := by decide +kernel
theorem mit1_X3_init : Cond.initialized RX1 ∈ wsX3_init := by decide +kernel
theorem mimX1_init_X3_init : Cond.instanceMethod yX1_init ∈ wsX3_init := by decide +kernel
theorem mf12_X3_init : Cond.fieldLink RX3 12 "GasVoyages$Flight" "balloon" "LGasVoyages$Balloon;" ∈ wsX3_init := by decide +kernel
set_option maxRecDepth 20000 in
theorem iw3_X3_init : ∀ w ∈ u_ws RX3 TX3 7, w ∈ wsX3_init := by decide +kernel
theorem maci_X3_init : Cond.arrayClass .int ∈ wsX3_init := by decide +kernel
theorem mf18_X3_init : Cond.fieldLink RX3 18 "GasVoyages$Flight" "places" "[I" ∈ wsX3_init := by decide +kernel
theorem macz_X3_init : Cond.arrayClass .boolean ∈ wsX3_init := by decide +kernel
theorem mf22_X3_init : Cond.fieldLink RX3 22 "GasVoyages$Flight" "lost" "[Z" ∈ wsX3_init := by decide +kernel
abbrev wX3 (cy : Nat → ClassId) (h0 : Nat) (u : Nat → Nat) : va_W := [(h0, .inr (3, [.ref (u 0), .ref (u 1), .ref (u 2), .int 0, .int 0, .int 0, .int 0])), ((u 0), .inr (1, [.int 0, .int 0, .int 0, .int 0, .int 0, .int 0, .int 0, .int 0])), ((u 1), .inl (cy 0, 60, .inl (fun _ => 0))), ((u 2), .inl (cy 1, 60, .inl (fun _ => 0)))]
set_option maxRecDepth 100000 in
set_option maxHeartbeats 8000000 in
theorem n_X3 (l : Launch) (D : va_G) (cy : Nat → ClassId) (h0 : Nat) (sz : Nat) : Kn l yX3_init wsX3_init 2 3 128 D cy sz [(h0, .inr (3, [.null, .null, .null, .int 0, .int 0, .int 0, .int 0]))] (wX3 cy h0) [.ref h0] := by
  refine r_nstart (by decide) rfl rfl [.ref h0] (Nat.le_of_ble_eq_true rfl) ?_
  intro p e s m below meth c A S hr hlocks hin hCn hA hP hD ls hl
  have hl : lv_has ls 1 [(0, .ref h0)] := hl
  obtain ⟨hx, hb, hml, hown, hts⟩ := id S
  have hS : va_S A s.heap s.heap [] := va_S.rf
  refine lv_aload_n hx hb dX3_init_0 rfl (lv_at hl 0 rfl) ?_
  refine W.objInit hx hb hown (hts _ moi_X3_init) (hts _ mom_X3_init) (hts _ moc_X3_init) rfl (by rw [hml]; exact hl.1) rfl dX3_init_1 (Nat.le_of_ble_eq_true rfl) (Nat.le_of_ble_eq_true rfl) ?_
  refine W.eq (g2 := F0 m 4 ls []) rfl ?_
  refine lv_aload_n hx hb dX3_init_4 rfl (lv_at hl 0 rfl) ?_
  refine va_new (D := D) (ci := 1) (fs := [.int 0, .int 0, .int 0, .int 0, .int 0, .int 0, .int 0, .int 0]) (C := RX1) (T := TX1) (N := 8) hx hb hts iw1_X3_init tyX1 tyX1_ok hown (hts _ mcl9_X3_init) (hts _ min1_X3_init) (hts _ mit1_X3_init) hCn.1 hP hD hS hA rfl df_X1 (Nat.le_of_ble_eq_true rfl) (Nat.le_of_ble_eq_true rfl) dX3_init_5 (fun q0 H hP hD hS => ?_)
  have hP : va_P D vwCl ([(h0, .inr (3, [.null, .null, .null, .int 0, .int 0, .int 0, .int 0])), (q0, .inr (1, [.int 0, .int 0, .int 0, .int 0, .int 0, .int 0, .int 0, .int 0]))]) H := hP
  have hD : va_D A ([(h0, .inr (3, [.null, .null, .null, .int 0, .int 0, .int 0, .int 0])), (q0, .inr (1, [.int 0, .int 0, .int 0, .int 0, .int 0, .int 0, .int 0, .int 0]))]) := hD
  refine lv_dup hx hb dX3_init_8 rfl ?_
  refine r_ncall (wr := [(h0, .inr (3, [.null, .null, .null, .int 0, .int 0, .int 0, .int 0]))]) (r_nrunN (As := []) (rest := [.ref q0, .ref h0]) S hCn (n_X1 l D cy q0 H.size) (va_cnB 0 hts gX3_init_X1_init_n11 rfl rfl rfl (hCn.2.1.1 (RX3, 11, yX1_init) (by decide +kernel)) (hts _ mit1_X3_init) (by decide +kernel) ⟨Nat.le_of_ble_eq_true rfl, Nat.le_of_ble_eq_true rfl⟩) rfl (hts _ mimX1_init_X3_init) hP hD [1] rfl rfl (by decide) rfl hl.1 rfl (Nat.le_of_ble_eq_true rfl) ⟨Nat.le_of_ble_eq_true rfl, Nat.le_of_ble_eq_true rfl⟩ dX3_init_9) hP hD hS hA [1] [0] rfl rfl (by decide) (by decide) (fun u1 H locs hP hD hS => ?_)
  have hP : va_P D vwCl ([(h0, .inr (3, [.null, .null, .null, .int 0, .int 0, .int 0, .int 0]))] ++ wX1 cy q0 u1) H := hP
  have hD : va_D A ([(h0, .inr (3, [.null, .null, .null, .int 0, .int 0, .int 0, .int 0]))] ++ wX1 cy q0 u1) := hD
  refine va_putF (D := D) (ci := 3) (v := .ref q0) (ty := .object "GasVoyages$Balloon") (C := RX3) (T := TX3) (N := 7) hx hb hts iw3_X3_init tyX3 tyX3_ok nmX3 hown hCn.1 hP hD hS 0 rfl rfl 0 (by decide) (hts _ mf12_X3_init) (fun _ h9 => h9) rfl hin rfl (by decide +kernel) rfl rfl (Nat.le_of_ble_eq_true rfl) dX3_init_12 (fun H locs hP hD hS => ?_)
  have hP : va_P D vwCl ([(h0, .inr (3, [.ref q0, .null, .null, .int 0, .int 0, .int 0, .int 0]))] ++ wX1 cy q0 u1) H := hP
  have hD : va_D A ([(h0, .inr (3, [.ref q0, .null, .null, .int 0, .int 0, .int 0, .int 0]))] ++ wX1 cy q0 u1) := hD
  refine lv_aload_n hx hb dX3_init_15 rfl (lv_at hl 0 rfl) ?_
  refine lv_bipush (v := 60) hx hb dX3_init_16 (by decide) ?_
  refine r_newi (T := []) hx hb (hts _ maci_X3_init) hCn hP hD hS hA (N' := 60) (by decide) (by decide) (Nat.le_of_ble_eq_true rfl) (Nat.le_of_ble_eq_true rfl) (Nat.le_of_ble_eq_true rfl) dX3_init_18 (fun q2 H hP hD hS => ?_)
  have hP : va_P D vwCl ([(h0, .inr (3, [.ref q0, .null, .null, .int 0, .int 0, .int 0, .int 0]))] ++ wX1 cy q0 u1 ++ [(q2, .inl (cy 0, 60, .inl (fun _ => 0)))]) H := hP
  have hD : va_D A ([(h0, .inr (3, [.ref q0, .null, .null, .int 0, .int 0, .int 0, .int 0]))] ++ wX1 cy q0 u1 ++ [(q2, .inl (cy 0, 60, .inl (fun _ => 0)))]) := hD
  refine va_putF (D := D) (ci := 3) (v := .ref q2) (ty := .array .int) (C := RX3) (T := TX3) (N := 7) hx hb hts iw3_X3_init tyX3 tyX3_ok nmX3 hown hCn.1 hP hD hS 0 rfl rfl 1 (by decide) (hts _ mf18_X3_init) (fun _ h9 => h9) rfl hin rfl (by decide +kernel) rfl rfl (Nat.le_of_ble_eq_true rfl) dX3_init_20 (fun H locs hP hD hS => ?_)
  have hP : va_P D vwCl ([(h0, .inr (3, [.ref q0, .ref q2, .null, .int 0, .int 0, .int 0, .int 0]))] ++ wX1 cy q0 u1 ++ [(q2, .inl (cy 0, 60, .inl (fun _ => 0)))]) H := hP
  have hD : va_D A ([(h0, .inr (3, [.ref q0, .ref q2, .null, .int 0, .int 0, .int 0, .int 0]))] ++ wX1 cy q0 u1 ++ [(q2, .inl (cy 0, 60, .inl (fun _ => 0)))]) := hD
  refine lv_aload_n hx hb dX3_init_23 rfl (lv_at hl 0 rfl) ?_
  refine lv_bipush (v := 60) hx hb dX3_init_24 (by decide) ?_
  refine r_newz (T := []) hx hb (hts _ macz_X3_init) hCn hP hD hS hA (N' := 60) (by decide) (by decide) (Nat.le_of_ble_eq_true rfl) (Nat.le_of_ble_eq_true rfl) (Nat.le_of_ble_eq_true rfl) dX3_init_26 (fun q3 H hP hD hS => ?_)
  have hP : va_P D vwCl ([(h0, .inr (3, [.ref q0, .ref q2, .null, .int 0, .int 0, .int 0, .int 0]))] ++ wX1 cy q0 u1 ++ [(q2, .inl (cy 0, 60, .inl (fun _ => 0))), (q3, .inl (cy 1, 60, .inl (fun _ => 0)))]) H := hP
  have hD : va_D A ([(h0, .inr (3, [.ref q0, .ref q2, .null, .int 0, .int 0, .int 0, .int 0]))] ++ wX1 cy q0 u1 ++ [(q2, .inl (cy 0, 60, .inl (fun _ => 0))), (q3, .inl (cy 1, 60, .inl (fun _ => 0)))]) := hD
  refine va_putF (D := D) (ci := 3) (v := .ref q3) (ty := .array .boolean) (C := RX3) (T := TX3) (N := 7) hx hb hts iw3_X3_init tyX3 tyX3_ok nmX3 hown hCn.1 hP hD hS 0 rfl rfl 2 (by decide) (hts _ mf22_X3_init) (fun _ h9 => h9) rfl hin rfl (by decide +kernel) rfl rfl (Nat.le_of_ble_eq_true rfl) dX3_init_28 (fun H locs hP hD hS => ?_)
  have hP : va_P D vwCl ([(h0, .inr (3, [.ref q0, .ref q2, .ref q3, .int 0, .int 0, .int 0, .int 0]))] ++ wX1 cy q0 u1 ++ [(q2, .inl (cy 0, 60, .inl (fun _ => 0))), (q3, .inl (cy 1, 60, .inl (fun _ => 0)))]) H := hP
  have hD : va_D A ([(h0, .inr (3, [.ref q0, .ref q2, .ref q3, .int 0, .int 0, .int 0, .int 0]))] ++ wX1 cy q0 u1 ++ [(q2, .inl (cy 0, 60, .inl (fun _ => 0))), (q3, .inl (cy 1, 60, .inl (fun _ => 0)))]) := hD
  refine W.widen (k := 3) (n := 128) (Nat.le_of_ble_eq_true rfl) (Nat.le_of_ble_eq_true rfl) ?_
  exact r_nret (w1 := wX3 cy h0) S hr hlocks (fun k => ([q0, q2, q3] : List Nat).getD k 0) (hP.sub [0, 1, 2, 3] rfl) (hD.sub [0, 1, 2, 3] (by decide) rfl) hS dX3_init_31
theorem moi_X0_init : Cond.methodLink RX0 3 objectInit ∈ wsX0_init := by decide +kernel
theorem mom_X0_init : Cond.instanceMethod objectInit ∈ wsX0_init := by decide +kernel
theorem moc_X0_init : Cond.code objectInit ⟨#[0xb1]⟩ 1 none ∈ wsX0_init := by decide +kernel
theorem maci_X0_init : Cond.arrayClass .int ∈ wsX0_init := by decide +kernel
theorem mf9_X0_init : Cond.fieldLink RX0 9 "GasVoyages$Air" "density" "[I" ∈ wsX0_init := by decide +kernel
set_option maxRecDepth 20000 in
theorem iw0_X0_init : ∀ w ∈ u_ws RX0 TX0 5, w ∈ wsX0_init := by decide +kernel
theorem mf15_X0_init : Cond.fieldLink RX0 15 "GasVoyages$Air" "fullness" "[I" ∈ wsX0_init := by decide +kernel
theorem mf18_X0_init : Cond.fieldLink RX0 18 "GasVoyages$Air" "warmth" "[I" ∈ wsX0_init := by decide +kernel
set_option maxRecDepth 20000 in
theorem iw8_X0_init : ∀ w ∈ u_ws RX8 TX8 2, w ∈ wsX0_init := by decide +kernel
theorem mcl21_X0_init : Cond.classLink RX0 21 RX8 ∈ wsX0_init := by decide +kernel
theorem min8_X0_init : Cond.instantiable RX8 2 ∈ wsX0_init := by decide +kernel
theorem mit8_X0_init : Cond.initialized RX8 ∈ wsX0_init := by decide +kernel
theorem mimX8_init_X0_init : Cond.instanceMethod yX8_init ∈ wsX0_init := by decide +kernel
theorem mf24_X0_init : Cond.fieldLink RX0 24 "GasVoyages$Air" "real" "LGasVoyages$Winds;" ∈ wsX0_init := by decide +kernel
theorem mf28_X0_init : Cond.fieldLink RX0 28 "GasVoyages$Air" "forecast" "LGasVoyages$Winds;" ∈ wsX0_init := by decide +kernel
abbrev wX0 (cy : Nat → ClassId) (h0 : Nat) (u : Nat → Nat) : va_W := [(h0, .inr (0, [.ref (u 0), .ref (u 1), .ref (u 2), .ref (u 3), .ref (u 6)])), ((u 0), .inl (cy 0, 8, .inl (upd (upd (upd (upd (upd (upd (upd (upd (fun _ => 0) 0 14) 1 13) 2 12) 3 11) 4 10) 5 9) 6 8) 7 7))), ((u 1), .inl (cy 0, 8, .inl (upd (upd (upd (upd (upd (upd (upd (upd (fun _ => 0) 0 500) 1 500) 2 500) 3 500) 4 500) 5 500) 6 500) 7 500))), ((u 2), .inl (cy 0, 24, .inl (fun _ => 0))), ((u 3), .inr (8, [.ref (u 4), .ref (u 5)])), ((u 4), .inl (cy 0, 192, .inl (fun _ => 0))), ((u 5), .inl (cy 0, 192, .inl (fun _ => 0))), ((u 6), .inr (8, [.ref (u 7), .ref (u 8)])), ((u 7), .inl (cy 0, 192, .inl (fun _ => 0))), ((u 8), .inl (cy 0, 192, .inl (fun _ => 0)))]
set_option maxRecDepth 100000 in
set_option maxHeartbeats 8000000 in
theorem n_X0 (l : Launch) (D : va_G) (cy : Nat → ClassId) (h0 : Nat) (sz : Nat) : Kn l yX0_init wsX0_init 2 9 812 D cy sz [(h0, .inr (0, [.null, .null, .null, .null, .null]))] (wX0 cy h0) [.ref h0] := by
  refine r_nstart (by decide) rfl rfl [.ref h0] (Nat.le_of_ble_eq_true rfl) ?_
  intro p e s m below meth c A S hr hlocks hin hCn hA hP hD ls hl
  have hl : lv_has ls 2 [(0, .ref h0)] := hl
  obtain ⟨hx, hb, hml, hown, hts⟩ := id S
  have hS : va_S A s.heap s.heap [] := va_S.rf
  refine lv_aload_n hx hb dX0_init_0 rfl (lv_at hl 0 rfl) ?_
  refine W.objInit hx hb hown (hts _ moi_X0_init) (hts _ mom_X0_init) (hts _ moc_X0_init) rfl (by rw [hml]; exact hl.1) rfl dX0_init_1 (Nat.le_of_ble_eq_true rfl) (Nat.le_of_ble_eq_true rfl) ?_
  refine W.eq (g2 := F0 m 4 ls []) rfl ?_
  refine lv_aload_n hx hb dX0_init_4 rfl (lv_at hl 0 rfl) ?_
  refine lv_bipush (v := 8) hx hb dX0_init_5 (by decide) ?_
  refine r_newi (T := []) hx hb (hts _ maci_X0_init) hCn hP hD hS hA (N' := 8) (by decide) (by decide) (Nat.le_of_ble_eq_true rfl) (Nat.le_of_ble_eq_true rfl) (Nat.le_of_ble_eq_true rfl) dX0_init_7 (fun q0 H hP hD hS => ?_)
  have hP : va_P D vwCl ([(h0, .inr (0, [.null, .null, .null, .null, .null])), (q0, .inl (cy 0, 8, .inl (fun _ => 0)))]) H := hP
  have hD : va_D A ([(h0, .inr (0, [.null, .null, .null, .null, .null])), (q0, .inl (cy 0, 8, .inl (fun _ => 0)))]) := hD
  refine va_putF (D := D) (ci := 0) (v := .ref q0) (ty := .array .int) (C := RX0) (T := TX0) (N := 5) hx hb hts iw0_X0_init tyX0 tyX0_ok nmX0 hown hCn.1 hP hD hS 0 rfl rfl 0 (by decide) (hts _ mf9_X0_init) (fun _ h9 => h9) rfl hin rfl (by decide +kernel) rfl rfl (Nat.le_of_ble_eq_true rfl) dX0_init_9 (fun H locs hP hD hS => ?_)
  have hP : va_P D vwCl ([(h0, .inr (0, [.ref q0, .null, .null, .null, .null])), (q0, .inl (cy 0, 8, .inl (fun _ => 0)))]) H := hP
  have hD : va_D A ([(h0, .inr (0, [.ref q0, .null, .null, .null, .null])), (q0, .inl (cy 0, 8, .inl (fun _ => 0)))]) := hD
  refine lv_aload_n hx hb dX0_init_12 rfl (lv_at hl 0 rfl) ?_
  refine lv_bipush (v := 8) hx hb dX0_init_13 (by decide) ?_
  refine r_newi (T := []) hx hb (hts _ maci_X0_init) hCn hP hD hS hA (N' := 8) (by decide) (by decide) (Nat.le_of_ble_eq_true rfl) (Nat.le_of_ble_eq_true rfl) (Nat.le_of_ble_eq_true rfl) dX0_init_15 (fun q1 H hP hD hS => ?_)
  have hP : va_P D vwCl ([(h0, .inr (0, [.ref q0, .null, .null, .null, .null])), (q0, .inl (cy 0, 8, .inl (fun _ => 0))), (q1, .inl (cy 0, 8, .inl (fun _ => 0)))]) H := hP
  have hD : va_D A ([(h0, .inr (0, [.ref q0, .null, .null, .null, .null])), (q0, .inl (cy 0, 8, .inl (fun _ => 0))), (q1, .inl (cy 0, 8, .inl (fun _ => 0)))]) := hD
  refine va_putF (D := D) (ci := 0) (v := .ref q1) (ty := .array .int) (C := RX0) (T := TX0) (N := 5) hx hb hts iw0_X0_init tyX0 tyX0_ok nmX0 hown hCn.1 hP hD hS 0 rfl rfl 1 (by decide) (hts _ mf15_X0_init) (fun _ h9 => h9) rfl hin rfl (by decide +kernel) rfl rfl (Nat.le_of_ble_eq_true rfl) dX0_init_17 (fun H locs hP hD hS => ?_)
  have hP : va_P D vwCl ([(h0, .inr (0, [.ref q0, .ref q1, .null, .null, .null])), (q0, .inl (cy 0, 8, .inl (fun _ => 0))), (q1, .inl (cy 0, 8, .inl (fun _ => 0)))]) H := hP
  have hD : va_D A ([(h0, .inr (0, [.ref q0, .ref q1, .null, .null, .null])), (q0, .inl (cy 0, 8, .inl (fun _ => 0))), (q1, .inl (cy 0, 8, .inl (fun _ => 0)))]) := hD
  refine lv_aload_n hx hb dX0_init_20 rfl (lv_at hl 0 rfl) ?_
  refine lv_bipush (v := 24) hx hb dX0_init_21 (by decide) ?_
  refine r_newi (T := []) hx hb (hts _ maci_X0_init) hCn hP hD hS hA (N' := 24) (by decide) (by decide) (Nat.le_of_ble_eq_true rfl) (Nat.le_of_ble_eq_true rfl) (Nat.le_of_ble_eq_true rfl) dX0_init_23 (fun q2 H hP hD hS => ?_)
  have hP : va_P D vwCl ([(h0, .inr (0, [.ref q0, .ref q1, .null, .null, .null])), (q0, .inl (cy 0, 8, .inl (fun _ => 0))), (q1, .inl (cy 0, 8, .inl (fun _ => 0))), (q2, .inl (cy 0, 24, .inl (fun _ => 0)))]) H := hP
  have hD : va_D A ([(h0, .inr (0, [.ref q0, .ref q1, .null, .null, .null])), (q0, .inl (cy 0, 8, .inl (fun _ => 0))), (q1, .inl (cy 0, 8, .inl (fun _ => 0))), (q2, .inl (cy 0, 24, .inl (fun _ => 0)))]) := hD
  refine va_putF (D := D) (ci := 0) (v := .ref q2) (ty := .array .int) (C := RX0) (T := TX0) (N := 5) hx hb hts iw0_X0_init tyX0 tyX0_ok nmX0 hown hCn.1 hP hD hS 0 rfl rfl 2 (by decide) (hts _ mf18_X0_init) (fun _ h9 => h9) rfl hin rfl (by decide +kernel) rfl rfl (Nat.le_of_ble_eq_true rfl) dX0_init_25 (fun H locs hP hD hS => ?_)
  have hP : va_P D vwCl ([(h0, .inr (0, [.ref q0, .ref q1, .ref q2, .null, .null])), (q0, .inl (cy 0, 8, .inl (fun _ => 0))), (q1, .inl (cy 0, 8, .inl (fun _ => 0))), (q2, .inl (cy 0, 24, .inl (fun _ => 0)))]) H := hP
  have hD : va_D A ([(h0, .inr (0, [.ref q0, .ref q1, .ref q2, .null, .null])), (q0, .inl (cy 0, 8, .inl (fun _ => 0))), (q1, .inl (cy 0, 8, .inl (fun _ => 0))), (q2, .inl (cy 0, 24, .inl (fun _ => 0)))]) := hD
  refine lv_aload_n hx hb dX0_init_28 rfl (lv_at hl 0 rfl) ?_
  refine va_new (D := D) (ci := 8) (fs := [.null, .null]) (C := RX8) (T := TX8) (N := 2) hx hb hts iw8_X0_init tyX8 tyX8_ok hown (hts _ mcl21_X0_init) (hts _ min8_X0_init) (hts _ mit8_X0_init) hCn.1 hP hD hS hA rfl df_X8 (Nat.le_of_ble_eq_true rfl) (Nat.le_of_ble_eq_true rfl) dX0_init_29 (fun q3 H hP hD hS => ?_)
  have hP : va_P D vwCl ([(h0, .inr (0, [.ref q0, .ref q1, .ref q2, .null, .null])), (q0, .inl (cy 0, 8, .inl (fun _ => 0))), (q1, .inl (cy 0, 8, .inl (fun _ => 0))), (q2, .inl (cy 0, 24, .inl (fun _ => 0))), (q3, .inr (8, [.null, .null]))]) H := hP
  have hD : va_D A ([(h0, .inr (0, [.ref q0, .ref q1, .ref q2, .null, .null])), (q0, .inl (cy 0, 8, .inl (fun _ => 0))), (q1, .inl (cy 0, 8, .inl (fun _ => 0))), (q2, .inl (cy 0, 24, .inl (fun _ => 0))), (q3, .inr (8, [.null, .null]))]) := hD
  refine lv_dup hx hb dX0_init_32 rfl ?_
  refine r_ncall (wr := [(h0, .inr (0, [.ref q0, .ref q1, .ref q2, .null, .null])), (q0, .inl (cy 0, 8, .inl (fun _ => 0))), (q1, .inl (cy 0, 8, .inl (fun _ => 0))), (q2, .inl (cy 0, 24, .inl (fun _ => 0)))]) (r_nrunN (As := []) (rest := [.ref q3, .ref h0]) S hCn (n_X8 l D cy q3 H.size) (va_cnB 0 hts gX0_init_X8_init_n23 rfl rfl rfl (hCn.2.1.1 (RX0, 23, yX8_init) (by decide +kernel)) (hts _ mit8_X0_init) (by decide +kernel) ⟨Nat.le_of_ble_eq_true rfl, Nat.le_of_ble_eq_true rfl⟩) rfl (hts _ mimX8_init_X0_init) hP hD [4] rfl rfl (by decide) rfl hl.1 rfl (Nat.le_of_ble_eq_true rfl) ⟨Nat.le_of_ble_eq_true rfl, Nat.le_of_ble_eq_true rfl⟩ dX0_init_33) hP hD hS hA [4] [0, 1, 2, 3] rfl rfl (by decide) (by decide) (fun u4 H locs hP hD hS => ?_)
  have hP : va_P D vwCl ([(h0, .inr (0, [.ref q0, .ref q1, .ref q2, .null, .null])), (q0, .inl (cy 0, 8, .inl (fun _ => 0))), (q1, .inl (cy 0, 8, .inl (fun _ => 0))), (q2, .inl (cy 0, 24, .inl (fun _ => 0)))] ++ wX8 cy q3 u4) H := hP
  have hD : va_D A ([(h0, .inr (0, [.ref q0, .ref q1, .ref q2, .null, .null])), (q0, .inl (cy 0, 8, .inl (fun _ => 0))), (q1, .inl (cy 0, 8, .inl (fun _ => 0))), (q2, .inl (cy 0, 24, .inl (fun _ => 0)))] ++ wX8 cy q3 u4) := hD
  refine va_putF (D := D) (ci := 0) (v := .ref q3) (ty := .object "GasVoyages$Winds") (C := RX0) (T := TX0) (N := 5) hx hb hts iw0_X0_init tyX0 tyX0_ok nmX0 hown hCn.1 hP hD hS 0 rfl rfl 3 (by decide) (hts _ mf24_X0_init) (fun _ h9 => h9) rfl hin rfl (by decide +kernel) rfl rfl (Nat.le_of_ble_eq_true rfl) dX0_init_36 (fun H locs hP hD hS => ?_)
  have hP : va_P D vwCl ([(h0, .inr (0, [.ref q0, .ref q1, .ref q2, .ref q3, .null])), (q0, .inl (cy 0, 8, .inl (fun _ => 0))), (q1, .inl (cy 0, 8, .inl (fun _ => 0))), (q2, .inl (cy 0, 24, .inl (fun _ => 0)))] ++ wX8 cy q3 u4) H := hP
  have hD : va_D A ([(h0, .inr (0, [.ref q0, .ref q1, .ref q2, .ref q3, .null])), (q0, .inl (cy 0, 8, .inl (fun _ => 0))), (q1, .inl (cy 0, 8, .inl (fun _ => 0))), (q2, .inl (cy 0, 24, .inl (fun _ => 0)))] ++ wX8 cy q3 u4) := hD
  refine lv_aload_n hx hb dX0_init_39 rfl (lv_at hl 0 rfl) ?_
  refine va_new (D := D) (ci := 8) (fs := [.null, .null]) (C := RX8) (T := TX8) (N := 2) hx hb hts iw8_X0_init tyX8 tyX8_ok hown (hts _ mcl21_X0_init) (hts _ min8_X0_init) (hts _ mit8_X0_init) hCn.1 hP hD hS hA rfl df_X8 (Nat.le_of_ble_eq_true rfl) (Nat.le_of_ble_eq_true rfl) dX0_init_40 (fun q5 H hP hD hS => ?_)
  have hP : va_P D vwCl ([(h0, .inr (0, [.ref q0, .ref q1, .ref q2, .ref q3, .null])), (q0, .inl (cy 0, 8, .inl (fun _ => 0))), (q1, .inl (cy 0, 8, .inl (fun _ => 0))), (q2, .inl (cy 0, 24, .inl (fun _ => 0)))] ++ wX8 cy q3 u4 ++ [(q5, .inr (8, [.null, .null]))]) H := hP
  have hD : va_D A ([(h0, .inr (0, [.ref q0, .ref q1, .ref q2, .ref q3, .null])), (q0, .inl (cy 0, 8, .inl (fun _ => 0))), (q1, .inl (cy 0, 8, .inl (fun _ => 0))), (q2, .inl (cy 0, 24, .inl (fun _ => 0)))] ++ wX8 cy q3 u4 ++ [(q5, .inr (8, [.null, .null]))]) := hD
  refine lv_dup hx hb dX0_init_43 rfl ?_
  refine r_ncall (wr := [(h0, .inr (0, [.ref q0, .ref q1, .ref q2, .ref q3, .null])), (q0, .inl (cy 0, 8, .inl (fun _ => 0))), (q1, .inl (cy 0, 8, .inl (fun _ => 0))), (q2, .inl (cy 0, 24, .inl (fun _ => 0)))] ++ wX8 cy q3 u4) (r_nrunN (As := []) (rest := [.ref q5, .ref h0]) S hCn (n_X8 l D cy q5 H.size) (va_cnB 0 hts gX0_init_X8_init_n23 rfl rfl rfl (hCn.2.1.1 (RX0, 23, yX8_init) (by decide +kernel)) (hts _ mit8_X0_init) (by decide +kernel) ⟨Nat.le_of_ble_eq_true rfl, Nat.le_of_ble_eq_true rfl⟩) rfl (hts _ mimX8_init_X0_init) hP hD [7] rfl rfl (by decide) rfl hl.1 rfl (Nat.le_of_ble_eq_true rfl) ⟨Nat.le_of_ble_eq_true rfl, Nat.le_of_ble_eq_true rfl⟩ dX0_init_44) hP hD hS hA [7] [0, 1, 2, 3, 4, 5, 6] rfl rfl (by decide) (by decide) (fun u6 H locs hP hD hS => ?_)
  have hP : va_P D vwCl ([(h0, .inr (0, [.ref q0, .ref q1, .ref q2, .ref q3, .null])), (q0, .inl (cy 0, 8, .inl (fun _ => 0))), (q1, .inl (cy 0, 8, .inl (fun _ => 0))), (q2, .inl (cy 0, 24, .inl (fun _ => 0)))] ++ wX8 cy q3 u4 ++ wX8 cy q5 u6) H := hP
  have hD : va_D A ([(h0, .inr (0, [.ref q0, .ref q1, .ref q2, .ref q3, .null])), (q0, .inl (cy 0, 8, .inl (fun _ => 0))), (q1, .inl (cy 0, 8, .inl (fun _ => 0))), (q2, .inl (cy 0, 24, .inl (fun _ => 0)))] ++ wX8 cy q3 u4 ++ wX8 cy q5 u6) := hD
  refine va_putF (D := D) (ci := 0) (v := .ref q5) (ty := .object "GasVoyages$Winds") (C := RX0) (T := TX0) (N := 5) hx hb hts iw0_X0_init tyX0 tyX0_ok nmX0 hown hCn.1 hP hD hS 0 rfl rfl 4 (by decide) (hts _ mf28_X0_init) (fun _ h9 => h9) rfl hin rfl (by decide +kernel) rfl rfl (Nat.le_of_ble_eq_true rfl) dX0_init_47 (fun H locs hP hD hS => ?_)
  have hP : va_P D vwCl ([(h0, .inr (0, [.ref q0, .ref q1, .ref q2, .ref q3, .ref q5])), (q0, .inl (cy 0, 8, .inl (fun _ => 0))), (q1, .inl (cy 0, 8, .inl (fun _ => 0))), (q2, .inl (cy 0, 24, .inl (fun _ => 0)))] ++ wX8 cy q3 u4 ++ wX8 cy q5 u6) H := hP
  have hD : va_D A ([(h0, .inr (0, [.ref q0, .ref q1, .ref q2, .ref q3, .ref q5])), (q0, .inl (cy 0, 8, .inl (fun _ => 0))), (q1, .inl (cy 0, 8, .inl (fun _ => 0))), (q2, .inl (cy 0, 24, .inl (fun _ => 0)))] ++ wX8 cy q3 u4 ++ wX8 cy q5 u6) := hD
  refine lv_iconst (v := 0) hx hb dX0_init_50 (by decide) ?_
  refine lv_istore_n (lv' := [(1, .int 0), (0, .ref h0)]) hx hb dX0_init_51 rfl hl (by decide) rfl (fun ls hl => ?_)
  refine lv_iload_n hx hb dX0_init_52 rfl (lv_at hl 0 rfl) ?_
  refine lv_bipush (v := 8) hx hb dX0_init_53 (by decide) ?_
  refine lv_icmp_ge (tgt := 83) hx hb dX0_init_55 (by decide) (fun c1 => absurd c1 (by decide)) (fun _ => ?_)
  refine lv_aload_n hx hb dX0_init_58 rfl (lv_at hl 1 rfl) ?_
  refine va_get (D := D) (ci := 0) (v := .ref q0) (C := RX0) (T := TX0) (N := 5) hx hb hts iw0_X0_init hown hCn.1 hP 0 rfl rfl 0 (by decide) (hts _ mf9_X0_init) (fun _ h9 => h9) rfl dX0_init_59 ?_
  refine lv_iload_n hx hb dX0_init_62 rfl (lv_at hl 0 rfl) ?_
  refine lv_bipush (v := 14) hx hb dX0_init_63 (by decide) ?_
  refine lv_iload_n hx hb dX0_init_65 rfl (lv_at hl 0 rfl) ?_
  refine lv_isub hx hb dX0_init_66 ?_
  refine W.eq (g2 := F0 m 67 ls [.int 14, .int 0, .ref q0]) rfl ?_
  refine va_iast hx hb hCn.1 hP hD hS 1 0 (n := 8) (f := (fun _ => 0)) rfl rfl (vp_in_nI (n := 0) (N := 8) (by decide) (by decide)) dX0_init_67 (fun H locs hP hD hS => ?_)
  have hP : va_P D vwCl ([(h0, .inr (0, [.ref q0, .ref q1, .ref q2, .ref q3, .ref q5])), (q0, .inl (cy 0, 8, .inl (upd (fun _ => 0) 0 14))), (q1, .inl (cy 0, 8, .inl (fun _ => 0))), (q2, .inl (cy 0, 24, .inl (fun _ => 0)))] ++ wX8 cy q3 u4 ++ wX8 cy q5 u6) H := hP
  have hD : va_D A ([(h0, .inr (0, [.ref q0, .ref q1, .ref q2, .ref q3, .ref q5])), (q0, .inl (cy 0, 8, .inl (upd (fun _ => 0) 0 14))), (q1, .inl (cy 0, 8, .inl (fun _ => 0))), (q2, .inl (cy 0, 24, .inl (fun _ => 0)))] ++ wX8 cy q3 u4 ++ wX8 cy q5 u6) := hD
  refine lv_aload_n hx hb dX0_init_68 rfl (lv_at hl 1 rfl) ?_
  refine va_get (D := D) (ci := 0) (v := .ref q1) (C := RX0) (T := TX0) (N := 5) hx hb hts iw0_X0_init hown hCn.1 hP 0 rfl rfl 1 (by decide) (hts _ mf15_X0_init) (fun _ h9 => h9) rfl dX0_init_69 ?_
  refine lv_iload_n hx hb dX0_init_72 rfl (lv_at hl 0 rfl) ?_
  refine lv_sipush (v := 500) hx hb dX0_init_73 (by decide) ?_
  refine va_iast hx hb hCn.1 hP hD hS 2 0 (n := 8) (f := (fun _ => 0)) rfl rfl (vp_in_nI (n := 0) (N := 8) (by decide) (by decide)) dX0_init_76 (fun H locs hP hD hS => ?_)
  have hP : va_P D vwCl ([(h0, .inr (0, [.ref q0, .ref q1, .ref q2, .ref q3, .ref q5])), (q0, .inl (cy 0, 8, .inl (upd (fun _ => 0) 0 14))), (q1, .inl (cy 0, 8, .inl (upd (fun _ => 0) 0 500))), (q2, .inl (cy 0, 24, .inl (fun _ => 0)))] ++ wX8 cy q3 u4 ++ wX8 cy q5 u6) H := hP
  have hD : va_D A ([(h0, .inr (0, [.ref q0, .ref q1, .ref q2, .ref q3, .ref q5])), (q0, .inl (cy 0, 8, .inl (upd (fun _ => 0) 0 14))), (q1, .inl (cy 0, 8, .inl (upd (fun _ => 0) 0 500))), (q2, .inl (cy 0, 24, .inl (fun _ => 0)))] ++ wX8 cy q3 u4 ++ wX8 cy q5 u6) := hD
  refine lv_iinc (v := 1) (lv' := [(1, .int 1), (0, .ref h0)]) hx hb dX0_init_77 hl (k := 0) rfl rfl (by decide) rfl (fun ls hl => ?_)
  refine lv_goto (tgt := 52) hx hb dX0_init_80 (by decide) ?_
  refine lv_iload_n hx hb dX0_init_52 rfl (lv_at hl 0 rfl) ?_
  refine lv_bipush (v := 8) hx hb dX0_init_53 (by decide) ?_
  refine lv_icmp_ge (tgt := 83) hx hb dX0_init_55 (by decide) (fun c1 => absurd c1 (by decide)) (fun _ => ?_)
  refine lv_aload_n hx hb dX0_init_58 rfl (lv_at hl 1 rfl) ?_
  refine va_get (D := D) (ci := 0) (v := .ref q0) (C := RX0) (T := TX0) (N := 5) hx hb hts iw0_X0_init hown hCn.1 hP 0 rfl rfl 0 (by decide) (hts _ mf9_X0_init) (fun _ h9 => h9) rfl dX0_init_59 ?_
  refine lv_iload_n hx hb dX0_init_62 rfl (lv_at hl 0 rfl) ?_
  refine lv_bipush (v := 14) hx hb dX0_init_63 (by decide) ?_
  refine lv_iload_n hx hb dX0_init_65 rfl (lv_at hl 0 rfl) ?_
  refine lv_isub hx hb dX0_init_66 ?_
  refine W.eq (g2 := F0 m 67 ls [.int 13, .int 1, .ref q0]) rfl ?_
  refine va_iast hx hb hCn.1 hP hD hS 1 0 (n := 8) (f := (upd (fun _ => 0) 0 14)) rfl rfl (vp_in_nI (n := 1) (N := 8) (by decide) (by decide)) dX0_init_67 (fun H locs hP hD hS => ?_)
  have hP : va_P D vwCl ([(h0, .inr (0, [.ref q0, .ref q1, .ref q2, .ref q3, .ref q5])), (q0, .inl (cy 0, 8, .inl (upd (upd (fun _ => 0) 0 14) 1 13))), (q1, .inl (cy 0, 8, .inl (upd (fun _ => 0) 0 500))), (q2, .inl (cy 0, 24, .inl (fun _ => 0)))] ++ wX8 cy q3 u4 ++ wX8 cy q5 u6) H := hP
  have hD : va_D A ([(h0, .inr (0, [.ref q0, .ref q1, .ref q2, .ref q3, .ref q5])), (q0, .inl (cy 0, 8, .inl (upd (upd (fun _ => 0) 0 14) 1 13))), (q1, .inl (cy 0, 8, .inl (upd (fun _ => 0) 0 500))), (q2, .inl (cy 0, 24, .inl (fun _ => 0)))] ++ wX8 cy q3 u4 ++ wX8 cy q5 u6) := hD
  refine lv_aload_n hx hb dX0_init_68 rfl (lv_at hl 1 rfl) ?_
  refine va_get (D := D) (ci := 0) (v := .ref q1) (C := RX0) (T := TX0) (N := 5) hx hb hts iw0_X0_init hown hCn.1 hP 0 rfl rfl 1 (by decide) (hts _ mf15_X0_init) (fun _ h9 => h9) rfl dX0_init_69 ?_
  refine lv_iload_n hx hb dX0_init_72 rfl (lv_at hl 0 rfl) ?_
  refine lv_sipush (v := 500) hx hb dX0_init_73 (by decide) ?_
  refine va_iast hx hb hCn.1 hP hD hS 2 0 (n := 8) (f := (upd (fun _ => 0) 0 500)) rfl rfl (vp_in_nI (n := 1) (N := 8) (by decide) (by decide)) dX0_init_76 (fun H locs hP hD hS => ?_)
  have hP : va_P D vwCl ([(h0, .inr (0, [.ref q0, .ref q1, .ref q2, .ref q3, .ref q5])), (q0, .inl (cy 0, 8, .inl (upd (upd (fun _ => 0) 0 14) 1 13))), (q1, .inl (cy 0, 8, .inl (upd (upd (fun _ => 0) 0 500) 1 500))), (q2, .inl (cy 0, 24, .inl (fun _ => 0)))] ++ wX8 cy q3 u4 ++ wX8 cy q5 u6) H := hP
  have hD : va_D A ([(h0, .inr (0, [.ref q0, .ref q1, .ref q2, .ref q3, .ref q5])), (q0, .inl (cy 0, 8, .inl (upd (upd (fun _ => 0) 0 14) 1 13))), (q1, .inl (cy 0, 8, .inl (upd (upd (fun _ => 0) 0 500) 1 500))), (q2, .inl (cy 0, 24, .inl (fun _ => 0)))] ++ wX8 cy q3 u4 ++ wX8 cy q5 u6) := hD
  refine lv_iinc (v := 2) (lv' := [(1, .int 2), (0, .ref h0)]) hx hb dX0_init_77 hl (k := 0) rfl rfl (by decide) rfl (fun ls hl => ?_)
  refine lv_goto (tgt := 52) hx hb dX0_init_80 (by decide) ?_
  refine lv_iload_n hx hb dX0_init_52 rfl (lv_at hl 0 rfl) ?_
  refine lv_bipush (v := 8) hx hb dX0_init_53 (by decide) ?_
  refine lv_icmp_ge (tgt := 83) hx hb dX0_init_55 (by decide) (fun c1 => absurd c1 (by decide)) (fun _ => ?_)
  refine lv_aload_n hx hb dX0_init_58 rfl (lv_at hl 1 rfl) ?_
  refine va_get (D := D) (ci := 0) (v := .ref q0) (C := RX0) (T := TX0) (N := 5) hx hb hts iw0_X0_init hown hCn.1 hP 0 rfl rfl 0 (by decide) (hts _ mf9_X0_init) (fun _ h9 => h9) rfl dX0_init_59 ?_
  refine lv_iload_n hx hb dX0_init_62 rfl (lv_at hl 0 rfl) ?_
  refine lv_bipush (v := 14) hx hb dX0_init_63 (by decide) ?_
  refine lv_iload_n hx hb dX0_init_65 rfl (lv_at hl 0 rfl) ?_
  refine lv_isub hx hb dX0_init_66 ?_
  refine W.eq (g2 := F0 m 67 ls [.int 12, .int 2, .ref q0]) rfl ?_
  refine va_iast hx hb hCn.1 hP hD hS 1 0 (n := 8) (f := (upd (upd (fun _ => 0) 0 14) 1 13)) rfl rfl (vp_in_nI (n := 2) (N := 8) (by decide) (by decide)) dX0_init_67 (fun H locs hP hD hS => ?_)
  have hP : va_P D vwCl ([(h0, .inr (0, [.ref q0, .ref q1, .ref q2, .ref q3, .ref q5])), (q0, .inl (cy 0, 8, .inl (upd (upd (upd (fun _ => 0) 0 14) 1 13) 2 12))), (q1, .inl (cy 0, 8, .inl (upd (upd (fun _ => 0) 0 500) 1 500))), (q2, .inl (cy 0, 24, .inl (fun _ => 0)))] ++ wX8 cy q3 u4 ++ wX8 cy q5 u6) H := hP
  have hD : va_D A ([(h0, .inr (0, [.ref q0, .ref q1, .ref q2, .ref q3, .ref q5])), (q0, .inl (cy 0, 8, .inl (upd (upd (upd (fun _ => 0) 0 14) 1 13) 2 12))), (q1, .inl (cy 0, 8, .inl (upd (upd (fun _ => 0) 0 500) 1 500))), (q2, .inl (cy 0, 24, .inl (fun _ => 0)))] ++ wX8 cy q3 u4 ++ wX8 cy q5 u6) := hD
  refine lv_aload_n hx hb dX0_init_68 rfl (lv_at hl 1 rfl) ?_
  refine va_get (D := D) (ci := 0) (v := .ref q1) (C := RX0) (T := TX0) (N := 5) hx hb hts iw0_X0_init hown hCn.1 hP 0 rfl rfl 1 (by decide) (hts _ mf15_X0_init) (fun _ h9 => h9) rfl dX0_init_69 ?_
  refine lv_iload_n hx hb dX0_init_72 rfl (lv_at hl 0 rfl) ?_
  refine lv_sipush (v := 500) hx hb dX0_init_73 (by decide) ?_
  refine va_iast hx hb hCn.1 hP hD hS 2 0 (n := 8) (f := (upd (upd (fun _ => 0) 0 500) 1 500)) rfl rfl (vp_in_nI (n := 2) (N := 8) (by decide) (by decide)) dX0_init_76 (fun H locs hP hD hS => ?_)
  have hP : va_P D vwCl ([(h0, .inr (0, [.ref q0, .ref q1, .ref q2, .ref q3, .ref q5])), (q0, .inl (cy 0, 8, .inl (upd (upd (upd (fun _ => 0) 0 14) 1 13) 2 12))), (q1, .inl (cy 0, 8, .inl (upd (upd (upd (fun _ => 0) 0 500) 1 500) 2 500))), (q2, .inl (cy 0, 24, .inl (fun _ => 0)))] ++ wX8 cy q3 u4 ++ wX8 cy q5 u6) H := hP
  have hD : va_D A ([(h0, .inr (0, [.ref q0, .ref q1, .ref q2, .ref q3, .ref q5])), (q0, .inl (cy 0, 8, .inl (upd (upd (upd (fun _ => 0) 0 14) 1 13) 2 12))), (q1, .inl (cy 0, 8, .inl (upd (upd (upd (fun _ => 0) 0 500) 1 500) 2 500))), (q2, .inl (cy 0, 24, .inl (fun _ => 0)))] ++ wX8 cy q3 u4 ++ wX8 cy q5 u6) := hD
  refine lv_iinc (v := 3) (lv' := [(1, .int 3), (0, .ref h0)]) hx hb dX0_init_77 hl (k := 0) rfl rfl (by decide) rfl (fun ls hl => ?_)
  refine lv_goto (tgt := 52) hx hb dX0_init_80 (by decide) ?_
  refine lv_iload_n hx hb dX0_init_52 rfl (lv_at hl 0 rfl) ?_
  refine lv_bipush (v := 8) hx hb dX0_init_53 (by decide) ?_
  refine lv_icmp_ge (tgt := 83) hx hb dX0_init_55 (by decide) (fun c1 => absurd c1 (by decide)) (fun _ => ?_)
  refine lv_aload_n hx hb dX0_init_58 rfl (lv_at hl 1 rfl) ?_
  refine va_get (D := D) (ci := 0) (v := .ref q0) (C := RX0) (T := TX0) (N := 5) hx hb hts iw0_X0_init hown hCn.1 hP 0 rfl rfl 0 (by decide) (hts _ mf9_X0_init) (fun _ h9 => h9) rfl dX0_init_59 ?_
  refine lv_iload_n hx hb dX0_init_62 rfl (lv_at hl 0 rfl) ?_
  refine lv_bipush (v := 14) hx hb dX0_init_63 (by decide) ?_
  refine lv_iload_n hx hb dX0_init_65 rfl (lv_at hl 0 rfl) ?_
  refine lv_isub hx hb dX0_init_66 ?_
  refine W.eq (g2 := F0 m 67 ls [.int 11, .int 3, .ref q0]) rfl ?_
  refine va_iast hx hb hCn.1 hP hD hS 1 0 (n := 8) (f := (upd (upd (upd (fun _ => 0) 0 14) 1 13) 2 12)) rfl rfl (vp_in_nI (n := 3) (N := 8) (by decide) (by decide)) dX0_init_67 (fun H locs hP hD hS => ?_)
  have hP : va_P D vwCl ([(h0, .inr (0, [.ref q0, .ref q1, .ref q2, .ref q3, .ref q5])), (q0, .inl (cy 0, 8, .inl (upd (upd (upd (upd (fun _ => 0) 0 14) 1 13) 2 12) 3 11))), (q1, .inl (cy 0, 8, .inl (upd (upd (upd (fun _ => 0) 0 500) 1 500) 2 500))), (q2, .inl (cy 0, 24, .inl (fun _ => 0)))] ++ wX8 cy q3 u4 ++ wX8 cy q5 u6) H := hP
  have hD : va_D A ([(h0, .inr (0, [.ref q0, .ref q1, .ref q2, .ref q3, .ref q5])), (q0, .inl (cy 0, 8, .inl (upd (upd (upd (upd (fun _ => 0) 0 14) 1 13) 2 12) 3 11))), (q1, .inl (cy 0, 8, .inl (upd (upd (upd (fun _ => 0) 0 500) 1 500) 2 500))), (q2, .inl (cy 0, 24, .inl (fun _ => 0)))] ++ wX8 cy q3 u4 ++ wX8 cy q5 u6) := hD
  refine lv_aload_n hx hb dX0_init_68 rfl (lv_at hl 1 rfl) ?_
  refine va_get (D := D) (ci := 0) (v := .ref q1) (C := RX0) (T := TX0) (N := 5) hx hb hts iw0_X0_init hown hCn.1 hP 0 rfl rfl 1 (by decide) (hts _ mf15_X0_init) (fun _ h9 => h9) rfl dX0_init_69 ?_
  refine lv_iload_n hx hb dX0_init_72 rfl (lv_at hl 0 rfl) ?_
  refine lv_sipush (v := 500) hx hb dX0_init_73 (by decide) ?_
  refine va_iast hx hb hCn.1 hP hD hS 2 0 (n := 8) (f := (upd (upd (upd (fun _ => 0) 0 500) 1 500) 2 500)) rfl rfl (vp_in_nI (n := 3) (N := 8) (by decide) (by decide)) dX0_init_76 (fun H locs hP hD hS => ?_)
  have hP : va_P D vwCl ([(h0, .inr (0, [.ref q0, .ref q1, .ref q2, .ref q3, .ref q5])), (q0, .inl (cy 0, 8, .inl (upd (upd (upd (upd (fun _ => 0) 0 14) 1 13) 2 12) 3 11))), (q1, .inl (cy 0, 8, .inl (upd (upd (upd (upd (fun _ => 0) 0 500) 1 500) 2 500) 3 500))), (q2, .inl (cy 0, 24, .inl (fun _ => 0)))] ++ wX8 cy q3 u4 ++ wX8 cy q5 u6) H := hP
  have hD : va_D A ([(h0, .inr (0, [.ref q0, .ref q1, .ref q2, .ref q3, .ref q5])), (q0, .inl (cy 0, 8, .inl (upd (upd (upd (upd (fun _ => 0) 0 14) 1 13) 2 12) 3 11))), (q1, .inl (cy 0, 8, .inl (upd (upd (upd (upd (fun _ => 0) 0 500) 1 500) 2 500) 3 500))), (q2, .inl (cy 0, 24, .inl (fun _ => 0)))] ++ wX8 cy q3 u4 ++ wX8 cy q5 u6) := hD
  refine lv_iinc (v := 4) (lv' := [(1, .int 4), (0, .ref h0)]) hx hb dX0_init_77 hl (k := 0) rfl rfl (by decide) rfl (fun ls hl => ?_)
  refine lv_goto (tgt := 52) hx hb dX0_init_80 (by decide) ?_
  refine lv_iload_n hx hb dX0_init_52 rfl (lv_at hl 0 rfl) ?_
  refine lv_bipush (v := 8) hx hb dX0_init_53 (by decide) ?_
  refine lv_icmp_ge (tgt := 83) hx hb dX0_init_55 (by decide) (fun c1 => absurd c1 (by decide)) (fun _ => ?_)
  refine lv_aload_n hx hb dX0_init_58 rfl (lv_at hl 1 rfl) ?_
  refine va_get (D := D) (ci := 0) (v := .ref q0) (C := RX0) (T := TX0) (N := 5) hx hb hts iw0_X0_init hown hCn.1 hP 0 rfl rfl 0 (by decide) (hts _ mf9_X0_init) (fun _ h9 => h9) rfl dX0_init_59 ?_
  refine lv_iload_n hx hb dX0_init_62 rfl (lv_at hl 0 rfl) ?_
  refine lv_bipush (v := 14) hx hb dX0_init_63 (by decide) ?_
  refine lv_iload_n hx hb dX0_init_65 rfl (lv_at hl 0 rfl) ?_
  refine lv_isub hx hb dX0_init_66 ?_
  refine W.eq (g2 := F0 m 67 ls [.int 10, .int 4, .ref q0]) rfl ?_
  refine va_iast hx hb hCn.1 hP hD hS 1 0 (n := 8) (f := (upd (upd (upd (upd (fun _ => 0) 0 14) 1 13) 2 12) 3 11)) rfl rfl (vp_in_nI (n := 4) (N := 8) (by decide) (by decide)) dX0_init_67 (fun H locs hP hD hS => ?_)
  have hP : va_P D vwCl ([(h0, .inr (0, [.ref q0, .ref q1, .ref q2, .ref q3, .ref q5])), (q0, .inl (cy 0, 8, .inl (upd (upd (upd (upd (upd (fun _ => 0) 0 14) 1 13) 2 12) 3 11) 4 10))), (q1, .inl (cy 0, 8, .inl (upd (upd (upd (upd (fun _ => 0) 0 500) 1 500) 2 500) 3 500))), (q2, .inl (cy 0, 24, .inl (fun _ => 0)))] ++ wX8 cy q3 u4 ++ wX8 cy q5 u6) H := hP
  have hD : va_D A ([(h0, .inr (0, [.ref q0, .ref q1, .ref q2, .ref q3, .ref q5])), (q0, .inl (cy 0, 8, .inl (upd (upd (upd (upd (upd (fun _ => 0) 0 14) 1 13) 2 12) 3 11) 4 10))), (q1, .inl (cy 0, 8, .inl (upd (upd (upd (upd (fun _ => 0) 0 500) 1 500) 2 500) 3 500))), (q2, .inl (cy 0, 24, .inl (fun _ => 0)))] ++ wX8 cy q3 u4 ++ wX8 cy q5 u6) := hD
  refine lv_aload_n hx hb dX0_init_68 rfl (lv_at hl 1 rfl) ?_
  refine va_get (D := D) (ci := 0) (v := .ref q1) (C := RX0) (T := TX0) (N := 5) hx hb hts iw0_X0_init hown hCn.1 hP 0 rfl rfl 1 (by decide) (hts _ mf15_X0_init) (fun _ h9 => h9) rfl dX0_init_69 ?_
  refine lv_iload_n hx hb dX0_init_72 rfl (lv_at hl 0 rfl) ?_
  refine lv_sipush (v := 500) hx hb dX0_init_73 (by decide) ?_
  refine va_iast hx hb hCn.1 hP hD hS 2 0 (n := 8) (f := (upd (upd (upd (upd (fun _ => 0) 0 500) 1 500) 2 500) 3 500)) rfl rfl (vp_in_nI (n := 4) (N := 8) (by decide) (by decide)) dX0_init_76 (fun H locs hP hD hS => ?_)
  have hP : va_P D vwCl ([(h0, .inr (0, [.ref q0, .ref q1, .ref q2, .ref q3, .ref q5])), (q0, .inl (cy 0, 8, .inl (upd (upd (upd (upd (upd (fun _ => 0) 0 14) 1 13) 2 12) 3 11) 4 10))), (q1, .inl (cy 0, 8, .inl (upd (upd (upd (upd (upd (fun _ => 0) 0 500) 1 500) 2 500) 3 500) 4 500))), (q2, .inl (cy 0, 24, .inl (fun _ => 0)))] ++ wX8 cy q3 u4 ++ wX8 cy q5 u6) H := hP
  have hD : va_D A ([(h0, .inr (0, [.ref q0, .ref q1, .ref q2, .ref q3, .ref q5])), (q0, .inl (cy 0, 8, .inl (upd (upd (upd (upd (upd (fun _ => 0) 0 14) 1 13) 2 12) 3 11) 4 10))), (q1, .inl (cy 0, 8, .inl (upd (upd (upd (upd (upd (fun _ => 0) 0 500) 1 500) 2 500) 3 500) 4 500))), (q2, .inl (cy 0, 24, .inl (fun _ => 0)))] ++ wX8 cy q3 u4 ++ wX8 cy q5 u6) := hD
  refine lv_iinc (v := 5) (lv' := [(1, .int 5), (0, .ref h0)]) hx hb dX0_init_77 hl (k := 0) rfl rfl (by decide) rfl (fun ls hl => ?_)
  refine lv_goto (tgt := 52) hx hb dX0_init_80 (by decide) ?_
  refine lv_iload_n hx hb dX0_init_52 rfl (lv_at hl 0 rfl) ?_
  refine lv_bipush (v := 8) hx hb dX0_init_53 (by decide) ?_
  refine lv_icmp_ge (tgt := 83) hx hb dX0_init_55 (by decide) (fun c1 => absurd c1 (by decide)) (fun _ => ?_)
  refine lv_aload_n hx hb dX0_init_58 rfl (lv_at hl 1 rfl) ?_
  refine va_get (D := D) (ci := 0) (v := .ref q0) (C := RX0) (T := TX0) (N := 5) hx hb hts iw0_X0_init hown hCn.1 hP 0 rfl rfl 0 (by decide) (hts _ mf9_X0_init) (fun _ h9 => h9) rfl dX0_init_59 ?_
  refine lv_iload_n hx hb dX0_init_62 rfl (lv_at hl 0 rfl) ?_
  refine lv_bipush (v := 14) hx hb dX0_init_63 (by decide) ?_
  refine lv_iload_n hx hb dX0_init_65 rfl (lv_at hl 0 rfl) ?_
  refine lv_isub hx hb dX0_init_66 ?_
  refine W.eq (g2 := F0 m 67 ls [.int 9, .int 5, .ref q0]) rfl ?_
  refine va_iast hx hb hCn.1 hP hD hS 1 0 (n := 8) (f := (upd (upd (upd (upd (upd (fun _ => 0) 0 14) 1 13) 2 12) 3 11) 4 10)) rfl rfl (vp_in_nI (n := 5) (N := 8) (by decide) (by decide)) dX0_init_67 (fun H locs hP hD hS => ?_)
  have hP : va_P D vwCl ([(h0, .inr (0, [.ref q0, .ref q1, .ref q2, .ref q3, .ref q5])), (q0, .inl (cy 0, 8, .inl (upd (upd (upd (upd (upd (upd (fun _ => 0) 0 14) 1 13) 2 12) 3 11) 4 10) 5 9))), (q1, .inl (cy 0, 8, .inl (upd (upd (upd (upd (upd (fun _ => 0) 0 500) 1 500) 2 500) 3 500) 4 500))), (q2, .inl (cy 0, 24, .inl (fun _ => 0)))] ++ wX8 cy q3 u4 ++ wX8 cy q5 u6) H := hP
  have hD : va_D A ([(h0, .inr (0, [.ref q0, .ref q1, .ref q2, .ref q3, .ref q5])), (q0, .inl (cy 0, 8, .inl (upd (upd (upd (upd (upd (upd (fun _ => 0) 0 14) 1 13) 2 12) 3 11) 4 10) 5 9))), (q1, .inl (cy 0, 8, .inl (upd (upd (upd (upd (upd (fun _ => 0) 0 500) 1 500) 2 500) 3 500) 4 500))), (q2, .inl (cy 0, 24, .inl (fun _ => 0)))] ++ wX8 cy q3 u4 ++ wX8 cy q5 u6) := hD
  refine lv_aload_n hx hb dX0_init_68 rfl (lv_at hl 1 rfl) ?_
  refine va_get (D := D) (ci := 0) (v := .ref q1) (C := RX0) (T := TX0) (N := 5) hx hb hts iw0_X0_init hown hCn.1 hP 0 rfl rfl 1 (by decide) (hts _ mf15_X0_init) (fun _ h9 => h9) rfl dX0_init_69 ?_
  refine lv_iload_n hx hb dX0_init_72 rfl (lv_at hl 0 rfl) ?_
  refine lv_sipush (v := 500) hx hb dX0_init_73 (by decide) ?_
  refine va_iast hx hb hCn.1 hP hD hS 2 0 (n := 8) (f := (upd (upd (upd (upd (upd (fun _ => 0) 0 500) 1 500) 2 500) 3 500) 4 500)) rfl rfl (vp_in_nI (n := 5) (N := 8) (by decide) (by decide)) dX0_init_76 (fun H locs hP hD hS => ?_)
  have hP : va_P D vwCl ([(h0, .inr (0, [.ref q0, .ref q1, .ref q2, .ref q3, .ref q5])), (q0, .inl (cy 0, 8, .inl (upd (upd (upd (upd (upd (upd (fun _ => 0) 0 14) 1 13) 2 12) 3 11) 4 10) 5 9))), (q1, .inl (cy 0, 8, .inl (upd (upd (upd (upd (upd (upd (fun _ => 0) 0 500) 1 500) 2 500) 3 500) 4 500) 5 500))), (q2, .inl (cy 0, 24, .inl (fun _ => 0)))] ++ wX8 cy q3 u4 ++ wX8 cy q5 u6) H := hP
  have hD : va_D A ([(h0, .inr (0, [.ref q0, .ref q1, .ref q2, .ref q3, .ref q5])), (q0, .inl (cy 0, 8, .inl (upd (upd (upd (upd (upd (upd (fun _ => 0) 0 14) 1 13) 2 12) 3 11) 4 10) 5 9))), (q1, .inl (cy 0, 8, .inl (upd (upd (upd (upd (upd (upd (fun _ => 0) 0 500) 1 500) 2 500) 3 500) 4 500) 5 500))), (q2, .inl (cy 0, 24, .inl (fun _ => 0)))] ++ wX8 cy q3 u4 ++ wX8 cy q5 u6) := hD
  refine lv_iinc (v := 6) (lv' := [(1, .int 6), (0, .ref h0)]) hx hb dX0_init_77 hl (k := 0) rfl rfl (by decide) rfl (fun ls hl => ?_)
  refine lv_goto (tgt := 52) hx hb dX0_init_80 (by decide) ?_
  refine lv_iload_n hx hb dX0_init_52 rfl (lv_at hl 0 rfl) ?_
  refine lv_bipush (v := 8) hx hb dX0_init_53 (by decide) ?_
  refine lv_icmp_ge (tgt := 83) hx hb dX0_init_55 (by decide) (fun c1 => absurd c1 (by decide)) (fun _ => ?_)
  refine lv_aload_n hx hb dX0_init_58 rfl (lv_at hl 1 rfl) ?_
  refine va_get (D := D) (ci := 0) (v := .ref q0) (C := RX0) (T := TX0) (N := 5) hx hb hts iw0_X0_init hown hCn.1 hP 0 rfl rfl 0 (by decide) (hts _ mf9_X0_init) (fun _ h9 => h9) rfl dX0_init_59 ?_
  refine lv_iload_n hx hb dX0_init_62 rfl (lv_at hl 0 rfl) ?_
  refine lv_bipush (v := 14) hx hb dX0_init_63 (by decide) ?_
  refine lv_iload_n hx hb dX0_init_65 rfl (lv_at hl 0 rfl) ?_
  refine lv_isub hx hb dX0_init_66 ?_
  refine W.eq (g2 := F0 m 67 ls [.int 8, .int 6, .ref q0]) rfl ?_
  refine va_iast hx hb hCn.1 hP hD hS 1 0 (n := 8) (f := (upd (upd (upd (upd (upd (upd (fun _ => 0) 0 14) 1 13) 2 12) 3 11) 4 10) 5 9)) rfl rfl (vp_in_nI (n := 6) (N := 8) (by decide) (by decide)) dX0_init_67 (fun H locs hP hD hS => ?_)
  have hP : va_P D vwCl ([(h0, .inr (0, [.ref q0, .ref q1, .ref q2, .ref q3, .ref q5])), (q0, .inl (cy 0, 8, .inl (upd (upd (upd (upd (upd (upd (upd (fun _ => 0) 0 14) 1 13) 2 12) 3 11) 4 10) 5 9) 6 8))), (q1, .inl (cy 0, 8, .inl (upd (upd (upd (upd (upd (upd (fun _ => 0) 0 500) 1 500) 2 500) 3 500) 4 500) 5 500))), (q2, .inl (cy 0, 24, .inl (fun _ => 0)))] ++ wX8 cy q3 u4 ++ wX8 cy q5 u6) H := hP
  have hD : va_D A ([(h0, .inr (0, [.ref q0, .ref q1, .ref q2, .ref q3, .ref q5])), (q0, .inl (cy 0, 8, .inl (upd (upd (upd (upd (upd (upd (upd (fun _ => 0) 0 14) 1 13) 2 12) 3 11) 4 10) 5 9) 6 8))), (q1, .inl (cy 0, 8, .inl (upd (upd (upd (upd (upd (upd (fun _ => 0) 0 500) 1 500) 2 500) 3 500) 4 500) 5 500))), (q2, .inl (cy 0, 24, .inl (fun _ => 0)))] ++ wX8 cy q3 u4 ++ wX8 cy q5 u6) := hD
  refine lv_aload_n hx hb dX0_init_68 rfl (lv_at hl 1 rfl) ?_
  refine va_get (D := D) (ci := 0) (v := .ref q1) (C := RX0) (T := TX0) (N := 5) hx hb hts iw0_X0_init hown hCn.1 hP 0 rfl rfl 1 (by decide) (hts _ mf15_X0_init) (fun _ h9 => h9) rfl dX0_init_69 ?_
  refine lv_iload_n hx hb dX0_init_72 rfl (lv_at hl 0 rfl) ?_
  refine lv_sipush (v := 500) hx hb dX0_init_73 (by decide) ?_
  refine va_iast hx hb hCn.1 hP hD hS 2 0 (n := 8) (f := (upd (upd (upd (upd (upd (upd (fun _ => 0) 0 500) 1 500) 2 500) 3 500) 4 500) 5 500)) rfl rfl (vp_in_nI (n := 6) (N := 8) (by decide) (by decide)) dX0_init_76 (fun H locs hP hD hS => ?_)
  have hP : va_P D vwCl ([(h0, .inr (0, [.ref q0, .ref q1, .ref q2, .ref q3, .ref q5])), (q0, .inl (cy 0, 8, .inl (upd (upd (upd (upd (upd (upd (upd (fun _ => 0) 0 14) 1 13) 2 12) 3 11) 4 10) 5 9) 6 8))), (q1, .inl (cy 0, 8, .inl (upd (upd (upd (upd (upd (upd (upd (fun _ => 0) 0 500) 1 500) 2 500) 3 500) 4 500) 5 500) 6 500))), (q2, .inl (cy 0, 24, .inl (fun _ => 0)))] ++ wX8 cy q3 u4 ++ wX8 cy q5 u6) H := hP
  have hD : va_D A ([(h0, .inr (0, [.ref q0, .ref q1, .ref q2, .ref q3, .ref q5])), (q0, .inl (cy 0, 8, .inl (upd (upd (upd (upd (upd (upd (upd (fun _ => 0) 0 14) 1 13) 2 12) 3 11) 4 10) 5 9) 6 8))), (q1, .inl (cy 0, 8, .inl (upd (upd (upd (upd (upd (upd (upd (fun _ => 0) 0 500) 1 500) 2 500) 3 500) 4 500) 5 500) 6 500))), (q2, .inl (cy 0, 24, .inl (fun _ => 0)))] ++ wX8 cy q3 u4 ++ wX8 cy q5 u6) := hD
  refine lv_iinc (v := 7) (lv' := [(1, .int 7), (0, .ref h0)]) hx hb dX0_init_77 hl (k := 0) rfl rfl (by decide) rfl (fun ls hl => ?_)
  refine lv_goto (tgt := 52) hx hb dX0_init_80 (by decide) ?_
  refine lv_iload_n hx hb dX0_init_52 rfl (lv_at hl 0 rfl) ?_
  refine lv_bipush (v := 8) hx hb dX0_init_53 (by decide) ?_
  refine lv_icmp_ge (tgt := 83) hx hb dX0_init_55 (by decide) (fun c1 => absurd c1 (by decide)) (fun _ => ?_)
  refine lv_aload_n hx hb dX0_init_58 rfl (lv_at hl 1 rfl) ?_
  refine va_get (D := D) (ci := 0) (v := .ref q0) (C := RX0) (T := TX0) (N := 5) hx hb hts iw0_X0_init hown hCn.1 hP 0 rfl rfl 0 (by decide) (hts _ mf9_X0_init) (fun _ h9 => h9) rfl dX0_init_59 ?_
  refine lv_iload_n hx hb dX0_init_62 rfl (lv_at hl 0 rfl) ?_
  refine lv_bipush (v := 14) hx hb dX0_init_63 (by decide) ?_
  refine lv_iload_n hx hb dX0_init_65 rfl (lv_at hl 0 rfl) ?_
  refine lv_isub hx hb dX0_init_66 ?_
  refine W.eq (g2 := F0 m 67 ls [.int 7, .int 7, .ref q0]) rfl ?_
  refine va_iast hx hb hCn.1 hP hD hS 1 0 (n := 8) (f := (upd (upd (upd (upd (upd (upd (upd (fun _ => 0) 0 14) 1 13) 2 12) 3 11) 4 10) 5 9) 6 8)) rfl rfl (vp_in_nI (n := 7) (N := 8) (by decide) (by decide)) dX0_init_67 (fun H locs hP hD hS => ?_)
  have hP : va_P D vwCl ([(h0, .inr (0, [.ref q0, .ref q1, .ref q2, .ref q3, .ref q5])), (q0, .inl (cy 0, 8, .inl (upd (upd (upd (upd (upd (upd (upd (upd (fun _ => 0) 0 14) 1 13) 2 12) 3 11) 4 10) 5 9) 6 8) 7 7))), (q1, .inl (cy 0, 8, .inl (upd (upd (upd (upd (upd (upd (upd (fun _ => 0) 0 500) 1 500) 2 500) 3 500) 4 500) 5 500) 6 500))), (q2, .inl (cy 0, 24, .inl (fun _ => 0)))] ++ wX8 cy q3 u4 ++ wX8 cy q5 u6) H := hP
  have hD : va_D A ([(h0, .inr (0, [.ref q0, .ref q1, .ref q2, .ref q3, .ref q5])), (q0, .inl (cy 0, 8, .inl (upd (upd (upd (upd (upd (upd (upd (upd (fun _ => 0) 0 14) 1 13) 2 12) 3 11) 4 10) 5 9) 6 8) 7 7))), (q1, .inl (cy 0, 8, .inl (upd (upd (upd (upd (upd (upd (upd (fun _ => 0) 0 500) 1 500) 2 500) 3 500) 4 500) 5 500) 6 500))), (q2, .inl (cy 0, 24, .inl (fun _ => 0)))] ++ wX8 cy q3 u4 ++ wX8 cy q5 u6) := hD
  refine lv_aload_n hx hb dX0_init_68 rfl (lv_at hl 1 rfl) ?_
  refine va_get (D := D) (ci := 0) (v := .ref q1) (C := RX0) (T := TX0) (N := 5) hx hb hts iw0_X0_init hown hCn.1 hP 0 rfl rfl 1 (by decide) (hts _ mf15_X0_init) (fun _ h9 => h9) rfl dX0_init_69 ?_
  refine lv_iload_n hx hb dX0_init_72 rfl (lv_at hl 0 rfl) ?_
  refine lv_sipush (v := 500) hx hb dX0_init_73 (by decide) ?_
  refine va_iast hx hb hCn.1 hP hD hS 2 0 (n := 8) (f := (upd (upd (upd (upd (upd (upd (upd (fun _ => 0) 0 500) 1 500) 2 500) 3 500) 4 500) 5 500) 6 500)) rfl rfl (vp_in_nI (n := 7) (N := 8) (by decide) (by decide)) dX0_init_76 (fun H locs hP hD hS => ?_)
  have hP : va_P D vwCl ([(h0, .inr (0, [.ref q0, .ref q1, .ref q2, .ref q3, .ref q5])), (q0, .inl (cy 0, 8, .inl (upd (upd (upd (upd (upd (upd (upd (upd (fun _ => 0) 0 14) 1 13) 2 12) 3 11) 4 10) 5 9) 6 8) 7 7))), (q1, .inl (cy 0, 8, .inl (upd (upd (upd (upd (upd (upd (upd (upd (fun _ => 0) 0 500) 1 500) 2 500) 3 500) 4 500) 5 500) 6 500) 7 500))), (q2, .inl (cy 0, 24, .inl (fun _ => 0)))] ++ wX8 cy q3 u4 ++ wX8 cy q5 u6) H := hP
  have hD : va_D A ([(h0, .inr (0, [.ref q0, .ref q1, .ref q2, .ref q3, .ref q5])), (q0, .inl (cy 0, 8, .inl (upd (upd (upd (upd (upd (upd (upd (upd (fun _ => 0) 0 14) 1 13) 2 12) 3 11) 4 10) 5 9) 6 8) 7 7))), (q1, .inl (cy 0, 8, .inl (upd (upd (upd (upd (upd (upd (upd (upd (fun _ => 0) 0 500) 1 500) 2 500) 3 500) 4 500) 5 500) 6 500) 7 500))), (q2, .inl (cy 0, 24, .inl (fun _ => 0)))] ++ wX8 cy q3 u4 ++ wX8 cy q5 u6) := hD
  refine lv_iinc (v := 8) (lv' := [(1, .int 8), (0, .ref h0)]) hx hb dX0_init_77 hl (k := 0) rfl rfl (by decide) rfl (fun ls hl => ?_)
  refine lv_goto (tgt := 52) hx hb dX0_init_80 (by decide) ?_
  refine lv_iload_n hx hb dX0_init_52 rfl (lv_at hl 0 rfl) ?_
  refine lv_bipush (v := 8) hx hb dX0_init_53 (by decide) ?_
  refine lv_icmp_ge (tgt := 83) hx hb dX0_init_55 (by decide) (fun _ => ?_) (fun c1 => absurd (by decide) c1)
  refine W.widen (k := 9) (n := 812) (Nat.le_of_ble_eq_true rfl) (Nat.le_of_ble_eq_true rfl) ?_
  exact r_nret (w1 := wX0 cy h0) S hr hlocks (fun k => ([q0, q1, q2, q3, (u4 0), (u4 1), q5, (u6 0), (u6 1)] : List Nat).getD k 0) (hP.sub [0, 1, 2, 3, 4, 5, 6, 7, 8, 9] rfl) (hD.sub [0, 1, 2, 3, 4, 5, 6, 7, 8, 9] (by decide) rfl) hS dX0_init_83
theorem moi_X6_init : Cond.methodLink RX6 3 objectInit ∈ wsX6_init := by decide +kernel
theorem mom_X6_init : Cond.instanceMethod objectInit ∈ wsX6_init := by decide +kernel
theorem moc_X6_init : Cond.code objectInit ⟨#[0xb1]⟩ 1 none ∈ wsX6_init := by decide +kernel
theorem mcl9_X6_init : Cond.classLink RX6 9 RX1 ∈ wsX6_init := by decide +kernel
theorem mf11_X6_init : Cond.fieldLink RX6 11 "GasVoyages$Planner" "behind" "[LGasVoyages$Balloon;" ∈ wsX6_init := by decide +kernel
set_option maxRecDepth 20000 in
theorem iw6_X6_init : ∀ w ∈ u_ws RX6 TX6 11, w ∈ wsX6_init := by decide +kernel
theorem maci_X6_init : Cond.arrayClass .int ∈ wsX6_init := by decide +kernel
theorem mf17_X6_init : Cond.fieldLink RX6 17 "GasVoyages$Planner" "row" "[I" ∈ wsX6_init := by decide +kernel
theorem mf21_X6_init : Cond.fieldLink RX6 21 "GasVoyages$Planner" "found" "[I" ∈ wsX6_init := by decide +kernel
theorem mf24_X6_init : Cond.fieldLink RX6 24 "GasVoyages$Planner" "foundLength" "I" ∈ wsX6_init := by decide +kernel
theorem mf28_X6_init : Cond.fieldLink RX6 28 "GasVoyages$Planner" "land" "LGasVoyages$Land;" ∈ wsX6_init := by decide +kernel
theorem mf32_X6_init : Cond.fieldLink RX6 32 "GasVoyages$Planner" "air" "LGasVoyages$Air;" ∈ wsX6_init := by decide +kernel
set_option maxRecDepth 20000 in
theorem iw1_X6_init : ∀ w ∈ u_ws RX1 TX1 8, w ∈ wsX6_init := by decide +kernel
theorem min1_X6_init : Cond.instantiable RX1 8 ∈ wsX6_init := by decide +kernel
theorem mit1_X6_init : Cond.initialized RX1 ∈ wsX6_init := by decide +kernel
theorem mimX1_init_X6_init : Cond.instanceMethod yX1_init ∈ wsX6_init := by decide +kernel
abbrev wX6 (cy : Nat → ClassId) (h0 a1 a2 : Nat) (u : Nat → Nat) : va_W := [(h0, .inr (6, [.ref a1, .ref a2, .ref (u 0), .ref (u 1), .ref (u 2), .int 0, .int 0, .int 0, .int 0, .int 0, .int 0])), ((u 0), .inl (cy 3, 7, .inr (.inr (.inr (.inr (va_up (va_up (va_up (va_up (va_up (va_up (va_up (fun _ => none) 0 (some (u 3))) 1 (some (u 4))) 2 (some (u 5))) 3 (some (u 6))) 4 (some (u 7))) 5 (some (u 8))) 6 (some (u 9)))))))), ((u 1), .inl (cy 0, 6, .inl (fun _ => 0))), ((u 2), .inl (cy 0, 6, .inl (fun _ => 0))), ((u 3), .inr (1, [.int 0, .int 0, .int 0, .int 0, .int 0, .int 0, .int 0, .int 0])), ((u 4), .inr (1, [.int 0, .int 0, .int 0, .int 0, .int 0, .int 0, .int 0, .int 0])), ((u 5), .inr (1, [.int 0, .int 0, .int 0, .int 0, .int 0, .int 0, .int 0, .int 0])), ((u 6), .inr (1, [.int 0, .int 0, .int 0, .int 0, .int 0, .int 0, .int 0, .int 0])), ((u 7), .inr (1, [.int 0, .int 0, .int 0, .int 0, .int 0, .int 0, .int 0, .int 0])), ((u 8), .inr (1, [.int 0, .int 0, .int 0, .int 0, .int 0, .int 0, .int 0, .int 0])), ((u 9), .inr (1, [.int 0, .int 0, .int 0, .int 0, .int 0, .int 0, .int 0, .int 0]))]
set_option maxRecDepth 100000 in
set_option maxHeartbeats 8000000 in
theorem n_X6 (l : Launch) (D : va_G) (cy : Nat → ClassId) (h0 a1 a2 : Nat) (sz : Nat) : Kn l yX6_init wsX6_init 2 10 75 D cy sz [(h0, .inr (6, [.null, .null, .null, .null, .null, .int 0, .int 0, .int 0, .int 0, .int 0, .int 0]))] (wX6 cy h0 a1 a2) [.ref h0, .ref a1, .ref a2] := by
  refine r_nstart (by decide) rfl rfl [.ref h0, .ref a1, .ref a2] (Nat.le_of_ble_eq_true rfl) ?_
  intro p e s m below meth c A S hr hlocks hin hCn hA hP hD ls hl
  have hl : lv_has ls 4 [(0, .ref h0), (1, .ref a1), (2, .ref a2)] := hl
  obtain ⟨hx, hb, hml, hown, hts⟩ := id S
  have hS : va_S A s.heap s.heap [] := va_S.rf
  refine lv_aload_n hx hb dX6_init_0 rfl (lv_at hl 0 rfl) ?_
  refine W.objInit hx hb hown (hts _ moi_X6_init) (hts _ mom_X6_init) (hts _ moc_X6_init) rfl (by rw [hml]; exact hl.1) rfl dX6_init_1 (Nat.le_of_ble_eq_true rfl) (Nat.le_of_ble_eq_true rfl) ?_
  refine W.eq (g2 := F0 m 4 ls []) rfl ?_
  refine lv_aload_n hx hb dX6_init_4 rfl (lv_at hl 0 rfl) ?_
  refine lv_bipush (v := 7) hx hb dX6_init_5 (by decide) ?_
  refine r_newB hx hb hown (hts _ mcl9_X6_init) hCn hP hD hS hA (N' := 7) (by decide) (by decide) (Nat.le_of_ble_eq_true rfl) (Nat.le_of_ble_eq_true rfl) (Nat.le_of_ble_eq_true rfl) dX6_init_7 (fun q0 H hP hD hS => ?_)
  have hP : va_P D vwCl ([(h0, .inr (6, [.null, .null, .null, .null, .null, .int 0, .int 0, .int 0, .int 0, .int 0, .int 0])), (q0, .inl (cy 3, 7, .inr (.inr (.inr (.inr (fun _ => none))))))]) H := hP
  have hD : va_D A ([(h0, .inr (6, [.null, .null, .null, .null, .null, .int 0, .int 0, .int 0, .int 0, .int 0, .int 0])), (q0, .inl (cy 3, 7, .inr (.inr (.inr (.inr (fun _ => none))))))]) := hD
  refine va_putF (D := D) (ci := 6) (v := .ref q0) (ty := .array (.object "GasVoyages$Balloon")) (C := RX6) (T := TX6) (N := 11) hx hb hts iw6_X6_init tyX6 tyX6_ok nmX6 hown hCn.1 hP hD hS 0 rfl rfl 2 (by decide) (hts _ mf11_X6_init) (fun _ h9 => h9) rfl hin rfl (by decide +kernel) rfl rfl (Nat.le_of_ble_eq_true rfl) dX6_init_10 (fun H locs hP hD hS => ?_)
  have hP : va_P D vwCl ([(h0, .inr (6, [.null, .null, .ref q0, .null, .null, .int 0, .int 0, .int 0, .int 0, .int 0, .int 0])), (q0, .inl (cy 3, 7, .inr (.inr (.inr (.inr (fun _ => none))))))]) H := hP
  have hD : va_D A ([(h0, .inr (6, [.null, .null, .ref q0, .null, .null, .int 0, .int 0, .int 0, .int 0, .int 0, .int 0])), (q0, .inl (cy 3, 7, .inr (.inr (.inr (.inr (fun _ => none))))))]) := hD
  refine lv_aload_n hx hb dX6_init_13 rfl (lv_at hl 0 rfl) ?_
  refine lv_bipush (v := 6) hx hb dX6_init_14 (by decide) ?_
  refine r_newi (T := []) hx hb (hts _ maci_X6_init) hCn hP hD hS hA (N' := 6) (by decide) (by decide) (Nat.le_of_ble_eq_true rfl) (Nat.le_of_ble_eq_true rfl) (Nat.le_of_ble_eq_true rfl) dX6_init_16 (fun q1 H hP hD hS => ?_)
  have hP : va_P D vwCl ([(h0, .inr (6, [.null, .null, .ref q0, .null, .null, .int 0, .int 0, .int 0, .int 0, .int 0, .int 0])), (q0, .inl (cy 3, 7, .inr (.inr (.inr (.inr (fun _ => none)))))), (q1, .inl (cy 0, 6, .inl (fun _ => 0)))]) H := hP
  have hD : va_D A ([(h0, .inr (6, [.null, .null, .ref q0, .null, .null, .int 0, .int 0, .int 0, .int 0, .int 0, .int 0])), (q0, .inl (cy 3, 7, .inr (.inr (.inr (.inr (fun _ => none)))))), (q1, .inl (cy 0, 6, .inl (fun _ => 0)))]) := hD
  refine va_putF (D := D) (ci := 6) (v := .ref q1) (ty := .array .int) (C := RX6) (T := TX6) (N := 11) hx hb hts iw6_X6_init tyX6 tyX6_ok nmX6 hown hCn.1 hP hD hS 0 rfl rfl 3 (by decide) (hts _ mf17_X6_init) (fun _ h9 => h9) rfl hin rfl (by decide +kernel) rfl rfl (Nat.le_of_ble_eq_true rfl) dX6_init_18 (fun H locs hP hD hS => ?_)
  have hP : va_P D vwCl ([(h0, .inr (6, [.null, .null, .ref q0, .ref q1, .null, .int 0, .int 0, .int 0, .int 0, .int 0, .int 0])), (q0, .inl (cy 3, 7, .inr (.inr (.inr (.inr (fun _ => none)))))), (q1, .inl (cy 0, 6, .inl (fun _ => 0)))]) H := hP
  have hD : va_D A ([(h0, .inr (6, [.null, .null, .ref q0, .ref q1, .null, .int 0, .int 0, .int 0, .int 0, .int 0, .int 0])), (q0, .inl (cy 3, 7, .inr (.inr (.inr (.inr (fun _ => none)))))), (q1, .inl (cy 0, 6, .inl (fun _ => 0)))]) := hD
  refine lv_aload_n hx hb dX6_init_21 rfl (lv_at hl 0 rfl) ?_
  refine lv_bipush (v := 6) hx hb dX6_init_22 (by decide) ?_
  refine r_newi (T := []) hx hb (hts _ maci_X6_init) hCn hP hD hS hA (N' := 6) (by decide) (by decide) (Nat.le_of_ble_eq_true rfl) (Nat.le_of_ble_eq_true rfl) (Nat.le_of_ble_eq_true rfl) dX6_init_24 (fun q2 H hP hD hS => ?_)
  have hP : va_P D vwCl ([(h0, .inr (6, [.null, .null, .ref q0, .ref q1, .null, .int 0, .int 0, .int 0, .int 0, .int 0, .int 0])), (q0, .inl (cy 3, 7, .inr (.inr (.inr (.inr (fun _ => none)))))), (q1, .inl (cy 0, 6, .inl (fun _ => 0))), (q2, .inl (cy 0, 6, .inl (fun _ => 0)))]) H := hP
  have hD : va_D A ([(h0, .inr (6, [.null, .null, .ref q0, .ref q1, .null, .int 0, .int 0, .int 0, .int 0, .int 0, .int 0])), (q0, .inl (cy 3, 7, .inr (.inr (.inr (.inr (fun _ => none)))))), (q1, .inl (cy 0, 6, .inl (fun _ => 0))), (q2, .inl (cy 0, 6, .inl (fun _ => 0)))]) := hD
  refine va_putF (D := D) (ci := 6) (v := .ref q2) (ty := .array .int) (C := RX6) (T := TX6) (N := 11) hx hb hts iw6_X6_init tyX6 tyX6_ok nmX6 hown hCn.1 hP hD hS 0 rfl rfl 4 (by decide) (hts _ mf21_X6_init) (fun _ h9 => h9) rfl hin rfl (by decide +kernel) rfl rfl (Nat.le_of_ble_eq_true rfl) dX6_init_26 (fun H locs hP hD hS => ?_)
  have hP : va_P D vwCl ([(h0, .inr (6, [.null, .null, .ref q0, .ref q1, .ref q2, .int 0, .int 0, .int 0, .int 0, .int 0, .int 0])), (q0, .inl (cy 3, 7, .inr (.inr (.inr (.inr (fun _ => none)))))), (q1, .inl (cy 0, 6, .inl (fun _ => 0))), (q2, .inl (cy 0, 6, .inl (fun _ => 0)))]) H := hP
  have hD : va_D A ([(h0, .inr (6, [.null, .null, .ref q0, .ref q1, .ref q2, .int 0, .int 0, .int 0, .int 0, .int 0, .int 0])), (q0, .inl (cy 3, 7, .inr (.inr (.inr (.inr (fun _ => none)))))), (q1, .inl (cy 0, 6, .inl (fun _ => 0))), (q2, .inl (cy 0, 6, .inl (fun _ => 0)))]) := hD
  refine lv_aload_n hx hb dX6_init_29 rfl (lv_at hl 0 rfl) ?_
  refine lv_iconst (v := 0) hx hb dX6_init_30 (by decide) ?_
  refine va_put (D := D) (ci := 6) (v := .int 0) (ty := .int) (C := RX6) (T := TX6) (N := 11) hx hb hts iw6_X6_init tyX6 tyX6_ok nmX6 hown hCn.1 hP hD hS 0 rfl rfl 5 (by decide) (hts _ mf24_X6_init) (fun _ h9 => h9) rfl (by decide +kernel) rfl rfl (Nat.le_of_ble_eq_true rfl) dX6_init_31 (fun H locs hP hD hS => ?_)
  have hP : va_P D vwCl ([(h0, .inr (6, [.null, .null, .ref q0, .ref q1, .ref q2, .int 0, .int 0, .int 0, .int 0, .int 0, .int 0])), (q0, .inl (cy 3, 7, .inr (.inr (.inr (.inr (fun _ => none)))))), (q1, .inl (cy 0, 6, .inl (fun _ => 0))), (q2, .inl (cy 0, 6, .inl (fun _ => 0)))]) H := hP
  have hD : va_D A ([(h0, .inr (6, [.null, .null, .ref q0, .ref q1, .ref q2, .int 0, .int 0, .int 0, .int 0, .int 0, .int 0])), (q0, .inl (cy 3, 7, .inr (.inr (.inr (.inr (fun _ => none)))))), (q1, .inl (cy 0, 6, .inl (fun _ => 0))), (q2, .inl (cy 0, 6, .inl (fun _ => 0)))]) := hD
  refine lv_aload_n hx hb dX6_init_34 rfl (lv_at hl 0 rfl) ?_
  refine lv_aload_n hx hb dX6_init_35 rfl (lv_at hl 1 rfl) ?_
  refine va_putF (D := D) (ci := 6) (v := .ref a1) (ty := .object "GasVoyages$Land") (C := RX6) (T := TX6) (N := 11) hx hb hts iw6_X6_init tyX6 tyX6_ok nmX6 hown hCn.1 hP hD hS 0 rfl rfl 0 (by decide) (hts _ mf28_X6_init) (fun _ h9 => h9) rfl hin rfl (by decide +kernel) rfl rfl (Nat.le_of_ble_eq_true rfl) dX6_init_36 (fun H locs hP hD hS => ?_)
  have hP : va_P D vwCl ([(h0, .inr (6, [.ref a1, .null, .ref q0, .ref q1, .ref q2, .int 0, .int 0, .int 0, .int 0, .int 0, .int 0])), (q0, .inl (cy 3, 7, .inr (.inr (.inr (.inr (fun _ => none)))))), (q1, .inl (cy 0, 6, .inl (fun _ => 0))), (q2, .inl (cy 0, 6, .inl (fun _ => 0)))]) H := hP
  have hD : va_D A ([(h0, .inr (6, [.ref a1, .null, .ref q0, .ref q1, .ref q2, .int 0, .int 0, .int 0, .int 0, .int 0, .int 0])), (q0, .inl (cy 3, 7, .inr (.inr (.inr (.inr (fun _ => none)))))), (q1, .inl (cy 0, 6, .inl (fun _ => 0))), (q2, .inl (cy 0, 6, .inl (fun _ => 0)))]) := hD
  refine lv_aload_n hx hb dX6_init_39 rfl (lv_at hl 0 rfl) ?_
  refine lv_aload_n hx hb dX6_init_40 rfl (lv_at hl 2 rfl) ?_
  refine va_putF (D := D) (ci := 6) (v := .ref a2) (ty := .object "GasVoyages$Air") (C := RX6) (T := TX6) (N := 11) hx hb hts iw6_X6_init tyX6 tyX6_ok nmX6 hown hCn.1 hP hD hS 0 rfl rfl 1 (by decide) (hts _ mf32_X6_init) (fun _ h9 => h9) rfl hin rfl (by decide +kernel) rfl rfl (Nat.le_of_ble_eq_true rfl) dX6_init_41 (fun H locs hP hD hS => ?_)
  have hP : va_P D vwCl ([(h0, .inr (6, [.ref a1, .ref a2, .ref q0, .ref q1, .ref q2, .int 0, .int 0, .int 0, .int 0, .int 0, .int 0])), (q0, .inl (cy 3, 7, .inr (.inr (.inr (.inr (fun _ => none)))))), (q1, .inl (cy 0, 6, .inl (fun _ => 0))), (q2, .inl (cy 0, 6, .inl (fun _ => 0)))]) H := hP
  have hD : va_D A ([(h0, .inr (6, [.ref a1, .ref a2, .ref q0, .ref q1, .ref q2, .int 0, .int 0, .int 0, .int 0, .int 0, .int 0])), (q0, .inl (cy 3, 7, .inr (.inr (.inr (.inr (fun _ => none)))))), (q1, .inl (cy 0, 6, .inl (fun _ => 0))), (q2, .inl (cy 0, 6, .inl (fun _ => 0)))]) := hD
  refine lv_iconst (v := 0) hx hb dX6_init_44 (by decide) ?_
  refine lv_istore_n (lv' := [(3, .int 0), (0, .ref h0), (1, .ref a1), (2, .ref a2)]) hx hb dX6_init_45 rfl hl (by decide) rfl (fun ls hl => ?_)
  refine lv_iload_n hx hb dX6_init_46 rfl (lv_at hl 0 rfl) ?_
  refine lv_bipush (v := 6) hx hb dX6_init_47 (by decide) ?_
  refine lv_icmp_gt (tgt := 71) hx hb dX6_init_49 (by decide) (fun c1 => absurd c1 (by decide)) (fun _ => ?_)
  refine lv_aload_n hx hb dX6_init_52 rfl (lv_at hl 1 rfl) ?_
  refine va_get (D := D) (ci := 6) (v := .ref q0) (C := RX6) (T := TX6) (N := 11) hx hb hts iw6_X6_init hown hCn.1 hP 0 rfl rfl 2 (by decide) (hts _ mf11_X6_init) (fun _ h9 => h9) rfl dX6_init_53 ?_
  refine lv_iload_n hx hb dX6_init_56 rfl (lv_at hl 0 rfl) ?_
  refine va_new (D := D) (ci := 1) (fs := [.int 0, .int 0, .int 0, .int 0, .int 0, .int 0, .int 0, .int 0]) (C := RX1) (T := TX1) (N := 8) hx hb hts iw1_X6_init tyX1 tyX1_ok hown (hts _ mcl9_X6_init) (hts _ min1_X6_init) (hts _ mit1_X6_init) hCn.1 hP hD hS hA rfl df_X1 (Nat.le_of_ble_eq_true rfl) (Nat.le_of_ble_eq_true rfl) dX6_init_57 (fun q3 H hP hD hS => ?_)
  have hP : va_P D vwCl ([(h0, .inr (6, [.ref a1, .ref a2, .ref q0, .ref q1, .ref q2, .int 0, .int 0, .int 0, .int 0, .int 0, .int 0])), (q0, .inl (cy 3, 7, .inr (.inr (.inr (.inr (fun _ => none)))))), (q1, .inl (cy 0, 6, .inl (fun _ => 0))), (q2, .inl (cy 0, 6, .inl (fun _ => 0))), (q3, .inr (1, [.int 0, .int 0, .int 0, .int 0, .int 0, .int 0, .int 0, .int 0]))]) H := hP
  have hD : va_D A ([(h0, .inr (6, [.ref a1, .ref a2, .ref q0, .ref q1, .ref q2, .int 0, .int 0, .int 0, .int 0, .int 0, .int 0])), (q0, .inl (cy 3, 7, .inr (.inr (.inr (.inr (fun _ => none)))))), (q1, .inl (cy 0, 6, .inl (fun _ => 0))), (q2, .inl (cy 0, 6, .inl (fun _ => 0))), (q3, .inr (1, [.int 0, .int 0, .int 0, .int 0, .int 0, .int 0, .int 0, .int 0]))]) := hD
  refine lv_dup hx hb dX6_init_60 rfl ?_
  refine r_ncall (wr := [(h0, .inr (6, [.ref a1, .ref a2, .ref q0, .ref q1, .ref q2, .int 0, .int 0, .int 0, .int 0, .int 0, .int 0])), (q0, .inl (cy 3, 7, .inr (.inr (.inr (.inr (fun _ => none)))))), (q1, .inl (cy 0, 6, .inl (fun _ => 0))), (q2, .inl (cy 0, 6, .inl (fun _ => 0)))]) (r_nrunN (As := []) (rest := [.ref q3, .int 0, .ref q0]) S hCn (n_X1 l D cy q3 H.size) (va_cnB 0 hts gX6_init_X1_init_n36 rfl rfl rfl (hCn.2.1.1 (RX6, 36, yX1_init) (by decide +kernel)) (hts _ mit1_X6_init) (by decide +kernel) ⟨Nat.le_of_ble_eq_true rfl, Nat.le_of_ble_eq_true rfl⟩) rfl (hts _ mimX1_init_X6_init) hP hD [4] rfl rfl (by decide) rfl hl.1 rfl (Nat.le_of_ble_eq_true rfl) ⟨Nat.le_of_ble_eq_true rfl, Nat.le_of_ble_eq_true rfl⟩ dX6_init_61) hP hD hS hA [4] [0, 1, 2, 3] rfl rfl (by decide) (by decide) (fun u4 H locs hP hD hS => ?_)
  have hP : va_P D vwCl ([(h0, .inr (6, [.ref a1, .ref a2, .ref q0, .ref q1, .ref q2, .int 0, .int 0, .int 0, .int 0, .int 0, .int 0])), (q0, .inl (cy 3, 7, .inr (.inr (.inr (.inr (fun _ => none)))))), (q1, .inl (cy 0, 6, .inl (fun _ => 0))), (q2, .inl (cy 0, 6, .inl (fun _ => 0)))] ++ wX1 cy q3 u4) H := hP
  have hD : va_D A ([(h0, .inr (6, [.ref a1, .ref a2, .ref q0, .ref q1, .ref q2, .int 0, .int 0, .int 0, .int 0, .int 0, .int 0])), (q0, .inl (cy 3, 7, .inr (.inr (.inr (.inr (fun _ => none)))))), (q1, .inl (cy 0, 6, .inl (fun _ => 0))), (q2, .inl (cy 0, 6, .inl (fun _ => 0)))] ++ wX1 cy q3 u4) := hD
  refine va_astq (r := (RX1, TX1, 8)) hx hb hCn.1 hP hD hS 1 3 4 1 rfl rfl rfl rfl (vp_in_nI (n := 0) (N := 7) (by decide) (by decide)) dX6_init_64 (fun H locs hP hD hS => ?_)
  have hP : va_P D vwCl ([(h0, .inr (6, [.ref a1, .ref a2, .ref q0, .ref q1, .ref q2, .int 0, .int 0, .int 0, .int 0, .int 0, .int 0])), (q0, .inl (cy 3, 7, .inr (.inr (.inr (.inr (va_up (fun _ => none) 0 (some q3))))))), (q1, .inl (cy 0, 6, .inl (fun _ => 0))), (q2, .inl (cy 0, 6, .inl (fun _ => 0)))] ++ wX1 cy q3 u4) H := hP
  have hD : va_D A ([(h0, .inr (6, [.ref a1, .ref a2, .ref q0, .ref q1, .ref q2, .int 0, .int 0, .int 0, .int 0, .int 0, .int 0])), (q0, .inl (cy 3, 7, .inr (.inr (.inr (.inr (va_up (fun _ => none) 0 (some q3))))))), (q1, .inl (cy 0, 6, .inl (fun _ => 0))), (q2, .inl (cy 0, 6, .inl (fun _ => 0)))] ++ wX1 cy q3 u4) := hD
  refine lv_iinc (v := 1) (lv' := [(3, .int 1), (0, .ref h0), (1, .ref a1), (2, .ref a2)]) hx hb dX6_init_65 hl (k := 0) rfl rfl (by decide) rfl (fun ls hl => ?_)
  refine lv_goto (tgt := 46) hx hb dX6_init_68 (by decide) ?_
  refine lv_iload_n hx hb dX6_init_46 rfl (lv_at hl 0 rfl) ?_
  refine lv_bipush (v := 6) hx hb dX6_init_47 (by decide) ?_
  refine lv_icmp_gt (tgt := 71) hx hb dX6_init_49 (by decide) (fun c1 => absurd c1 (by decide)) (fun _ => ?_)
  refine lv_aload_n hx hb dX6_init_52 rfl (lv_at hl 1 rfl) ?_
  refine va_get (D := D) (ci := 6) (v := .ref q0) (C := RX6) (T := TX6) (N := 11) hx hb hts iw6_X6_init hown hCn.1 hP 0 rfl rfl 2 (by decide) (hts _ mf11_X6_init) (fun _ h9 => h9) rfl dX6_init_53 ?_
  refine lv_iload_n hx hb dX6_init_56 rfl (lv_at hl 0 rfl) ?_
  refine va_new (D := D) (ci := 1) (fs := [.int 0, .int 0, .int 0, .int 0, .int 0, .int 0, .int 0, .int 0]) (C := RX1) (T := TX1) (N := 8) hx hb hts iw1_X6_init tyX1 tyX1_ok hown (hts _ mcl9_X6_init) (hts _ min1_X6_init) (hts _ mit1_X6_init) hCn.1 hP hD hS hA rfl df_X1 (Nat.le_of_ble_eq_true rfl) (Nat.le_of_ble_eq_true rfl) dX6_init_57 (fun q5 H hP hD hS => ?_)
  have hP : va_P D vwCl ([(h0, .inr (6, [.ref a1, .ref a2, .ref q0, .ref q1, .ref q2, .int 0, .int 0, .int 0, .int 0, .int 0, .int 0])), (q0, .inl (cy 3, 7, .inr (.inr (.inr (.inr (va_up (fun _ => none) 0 (some q3))))))), (q1, .inl (cy 0, 6, .inl (fun _ => 0))), (q2, .inl (cy 0, 6, .inl (fun _ => 0)))] ++ wX1 cy q3 u4 ++ [(q5, .inr (1, [.int 0, .int 0, .int 0, .int 0, .int 0, .int 0, .int 0, .int 0]))]) H := hP
  have hD : va_D A ([(h0, .inr (6, [.ref a1, .ref a2, .ref q0, .ref q1, .ref q2, .int 0, .int 0, .int 0, .int 0, .int 0, .int 0])), (q0, .inl (cy 3, 7, .inr (.inr (.inr (.inr (va_up (fun _ => none) 0 (some q3))))))), (q1, .inl (cy 0, 6, .inl (fun _ => 0))), (q2, .inl (cy 0, 6, .inl (fun _ => 0)))] ++ wX1 cy q3 u4 ++ [(q5, .inr (1, [.int 0, .int 0, .int 0, .int 0, .int 0, .int 0, .int 0, .int 0]))]) := hD
  refine lv_dup hx hb dX6_init_60 rfl ?_
  refine r_ncall (wr := [(h0, .inr (6, [.ref a1, .ref a2, .ref q0, .ref q1, .ref q2, .int 0, .int 0, .int 0, .int 0, .int 0, .int 0])), (q0, .inl (cy 3, 7, .inr (.inr (.inr (.inr (va_up (fun _ => none) 0 (some q3))))))), (q1, .inl (cy 0, 6, .inl (fun _ => 0))), (q2, .inl (cy 0, 6, .inl (fun _ => 0)))] ++ wX1 cy q3 u4) (r_nrunN (As := []) (rest := [.ref q5, .int 1, .ref q0]) S hCn (n_X1 l D cy q5 H.size) (va_cnB 0 hts gX6_init_X1_init_n36 rfl rfl rfl (hCn.2.1.1 (RX6, 36, yX1_init) (by decide +kernel)) (hts _ mit1_X6_init) (by decide +kernel) ⟨Nat.le_of_ble_eq_true rfl, Nat.le_of_ble_eq_true rfl⟩) rfl (hts _ mimX1_init_X6_init) hP hD [5] rfl rfl (by decide) rfl hl.1 rfl (Nat.le_of_ble_eq_true rfl) ⟨Nat.le_of_ble_eq_true rfl, Nat.le_of_ble_eq_true rfl⟩ dX6_init_61) hP hD hS hA [5] [0, 1, 2, 3, 4] rfl rfl (by decide) (by decide) (fun u6 H locs hP hD hS => ?_)
  have hP : va_P D vwCl ([(h0, .inr (6, [.ref a1, .ref a2, .ref q0, .ref q1, .ref q2, .int 0, .int 0, .int 0, .int 0, .int 0, .int 0])), (q0, .inl (cy 3, 7, .inr (.inr (.inr (.inr (va_up (fun _ => none) 0 (some q3))))))), (q1, .inl (cy 0, 6, .inl (fun _ => 0))), (q2, .inl (cy 0, 6, .inl (fun _ => 0)))] ++ wX1 cy q3 u4 ++ wX1 cy q5 u6) H := hP
  have hD : va_D A ([(h0, .inr (6, [.ref a1, .ref a2, .ref q0, .ref q1, .ref q2, .int 0, .int 0, .int 0, .int 0, .int 0, .int 0])), (q0, .inl (cy 3, 7, .inr (.inr (.inr (.inr (va_up (fun _ => none) 0 (some q3))))))), (q1, .inl (cy 0, 6, .inl (fun _ => 0))), (q2, .inl (cy 0, 6, .inl (fun _ => 0)))] ++ wX1 cy q3 u4 ++ wX1 cy q5 u6) := hD
  refine va_astq (r := (RX1, TX1, 8)) hx hb hCn.1 hP hD hS 1 3 5 1 rfl rfl rfl rfl (vp_in_nI (n := 1) (N := 7) (by decide) (by decide)) dX6_init_64 (fun H locs hP hD hS => ?_)
  have hP : va_P D vwCl ([(h0, .inr (6, [.ref a1, .ref a2, .ref q0, .ref q1, .ref q2, .int 0, .int 0, .int 0, .int 0, .int 0, .int 0])), (q0, .inl (cy 3, 7, .inr (.inr (.inr (.inr (va_up (va_up (fun _ => none) 0 (some q3)) 1 (some q5))))))), (q1, .inl (cy 0, 6, .inl (fun _ => 0))), (q2, .inl (cy 0, 6, .inl (fun _ => 0)))] ++ wX1 cy q3 u4 ++ wX1 cy q5 u6) H := hP
  have hD : va_D A ([(h0, .inr (6, [.ref a1, .ref a2, .ref q0, .ref q1, .ref q2, .int 0, .int 0, .int 0, .int 0, .int 0, .int 0])), (q0, .inl (cy 3, 7, .inr (.inr (.inr (.inr (va_up (va_up (fun _ => none) 0 (some q3)) 1 (some q5))))))), (q1, .inl (cy 0, 6, .inl (fun _ => 0))), (q2, .inl (cy 0, 6, .inl (fun _ => 0)))] ++ wX1 cy q3 u4 ++ wX1 cy q5 u6) := hD
  refine lv_iinc (v := 2) (lv' := [(3, .int 2), (0, .ref h0), (1, .ref a1), (2, .ref a2)]) hx hb dX6_init_65 hl (k := 0) rfl rfl (by decide) rfl (fun ls hl => ?_)
  refine lv_goto (tgt := 46) hx hb dX6_init_68 (by decide) ?_
  refine lv_iload_n hx hb dX6_init_46 rfl (lv_at hl 0 rfl) ?_
  refine lv_bipush (v := 6) hx hb dX6_init_47 (by decide) ?_
  refine lv_icmp_gt (tgt := 71) hx hb dX6_init_49 (by decide) (fun c1 => absurd c1 (by decide)) (fun _ => ?_)
  refine lv_aload_n hx hb dX6_init_52 rfl (lv_at hl 1 rfl) ?_
  refine va_get (D := D) (ci := 6) (v := .ref q0) (C := RX6) (T := TX6) (N := 11) hx hb hts iw6_X6_init hown hCn.1 hP 0 rfl rfl 2 (by decide) (hts _ mf11_X6_init) (fun _ h9 => h9) rfl dX6_init_53 ?_
  refine lv_iload_n hx hb dX6_init_56 rfl (lv_at hl 0 rfl) ?_
  refine va_new (D := D) (ci := 1) (fs := [.int 0, .int 0, .int 0, .int 0, .int 0, .int 0, .int 0, .int 0]) (C := RX1) (T := TX1) (N := 8) hx hb hts iw1_X6_init tyX1 tyX1_ok hown (hts _ mcl9_X6_init) (hts _ min1_X6_init) (hts _ mit1_X6_init) hCn.1 hP hD hS hA rfl df_X1 (Nat.le_of_ble_eq_true rfl) (Nat.le_of_ble_eq_true rfl) dX6_init_57 (fun q7 H hP hD hS => ?_)
  have hP : va_P D vwCl ([(h0, .inr (6, [.ref a1, .ref a2, .ref q0, .ref q1, .ref q2, .int 0, .int 0, .int 0, .int 0, .int 0, .int 0])), (q0, .inl (cy 3, 7, .inr (.inr (.inr (.inr (va_up (va_up (fun _ => none) 0 (some q3)) 1 (some q5))))))), (q1, .inl (cy 0, 6, .inl (fun _ => 0))), (q2, .inl (cy 0, 6, .inl (fun _ => 0)))] ++ wX1 cy q3 u4 ++ wX1 cy q5 u6 ++ [(q7, .inr (1, [.int 0, .int 0, .int 0, .int 0, .int 0, .int 0, .int 0, .int 0]))]) H := hP
  have hD : va_D A ([(h0, .inr (6, [.ref a1, .ref a2, .ref q0, .ref q1, .ref q2, .int 0, .int 0, .int 0, .int 0, .int 0, .int 0])), (q0, .inl (cy 3, 7, .inr (.inr (.inr (.inr (va_up (va_up (fun _ => none) 0 (some q3)) 1 (some q5))))))), (q1, .inl (cy 0, 6, .inl (fun _ => 0))), (q2, .inl (cy 0, 6, .inl (fun _ => 0)))] ++ wX1 cy q3 u4 ++ wX1 cy q5 u6 ++ [(q7, .inr (1, [.int 0, .int 0, .int 0, .int 0, .int 0, .int 0, .int 0, .int 0]))]) := hD
  refine lv_dup hx hb dX6_init_60 rfl ?_
  refine r_ncall (wr := [(h0, .inr (6, [.ref a1, .ref a2, .ref q0, .ref q1, .ref q2, .int 0, .int 0, .int 0, .int 0, .int 0, .int 0])), (q0, .inl (cy 3, 7, .inr (.inr (.inr (.inr (va_up (va_up (fun _ => none) 0 (some q3)) 1 (some q5))))))), (q1, .inl (cy 0, 6, .inl (fun _ => 0))), (q2, .inl (cy 0, 6, .inl (fun _ => 0)))] ++ wX1 cy q3 u4 ++ wX1 cy q5 u6) (r_nrunN (As := []) (rest := [.ref q7, .int 2, .ref q0]) S hCn (n_X1 l D cy q7 H.size) (va_cnB 0 hts gX6_init_X1_init_n36 rfl rfl rfl (hCn.2.1.1 (RX6, 36, yX1_init) (by decide +kernel)) (hts _ mit1_X6_init) (by decide +kernel) ⟨Nat.le_of_ble_eq_true rfl, Nat.le_of_ble_eq_true rfl⟩) rfl (hts _ mimX1_init_X6_init) hP hD [6] rfl rfl (by decide) rfl hl.1 rfl (Nat.le_of_ble_eq_true rfl) ⟨Nat.le_of_ble_eq_true rfl, Nat.le_of_ble_eq_true rfl⟩ dX6_init_61) hP hD hS hA [6] [0, 1, 2, 3, 4, 5] rfl rfl (by decide) (by decide) (fun u8 H locs hP hD hS => ?_)
  have hP : va_P D vwCl ([(h0, .inr (6, [.ref a1, .ref a2, .ref q0, .ref q1, .ref q2, .int 0, .int 0, .int 0, .int 0, .int 0, .int 0])), (q0, .inl (cy 3, 7, .inr (.inr (.inr (.inr (va_up (va_up (fun _ => none) 0 (some q3)) 1 (some q5))))))), (q1, .inl (cy 0, 6, .inl (fun _ => 0))), (q2, .inl (cy 0, 6, .inl (fun _ => 0)))] ++ wX1 cy q3 u4 ++ wX1 cy q5 u6 ++ wX1 cy q7 u8) H := hP
  have hD : va_D A ([(h0, .inr (6, [.ref a1, .ref a2, .ref q0, .ref q1, .ref q2, .int 0, .int 0, .int 0, .int 0, .int 0, .int 0])), (q0, .inl (cy 3, 7, .inr (.inr (.inr (.inr (va_up (va_up (fun _ => none) 0 (some q3)) 1 (some q5))))))), (q1, .inl (cy 0, 6, .inl (fun _ => 0))), (q2, .inl (cy 0, 6, .inl (fun _ => 0)))] ++ wX1 cy q3 u4 ++ wX1 cy q5 u6 ++ wX1 cy q7 u8) := hD
  refine va_astq (r := (RX1, TX1, 8)) hx hb hCn.1 hP hD hS 1 3 6 1 rfl rfl rfl rfl (vp_in_nI (n := 2) (N := 7) (by decide) (by decide)) dX6_init_64 (fun H locs hP hD hS => ?_)
  have hP : va_P D vwCl ([(h0, .inr (6, [.ref a1, .ref a2, .ref q0, .ref q1, .ref q2, .int 0, .int 0, .int 0, .int 0, .int 0, .int 0])), (q0, .inl (cy 3, 7, .inr (.inr (.inr (.inr (va_up (va_up (va_up (fun _ => none) 0 (some q3)) 1 (some q5)) 2 (some q7))))))), (q1, .inl (cy 0, 6, .inl (fun _ => 0))), (q2, .inl (cy 0, 6, .inl (fun _ => 0)))] ++ wX1 cy q3 u4 ++ wX1 cy q5 u6 ++ wX1 cy q7 u8) H := hP
  have hD : va_D A ([(h0, .inr (6, [.ref a1, .ref a2, .ref q0, .ref q1, .ref q2, .int 0, .int 0, .int 0, .int 0, .int 0, .int 0])), (q0, .inl (cy 3, 7, .inr (.inr (.inr (.inr (va_up (va_up (va_up (fun _ => none) 0 (some q3)) 1 (some q5)) 2 (some q7))))))), (q1, .inl (cy 0, 6, .inl (fun _ => 0))), (q2, .inl (cy 0, 6, .inl (fun _ => 0)))] ++ wX1 cy q3 u4 ++ wX1 cy q5 u6 ++ wX1 cy q7 u8) := hD
  refine lv_iinc (v := 3) (lv' := [(3, .int 3), (0, .ref h0), (1, .ref a1), (2, .ref a2)]) hx hb dX6_init_65 hl (k := 0) rfl rfl (by decide) rfl (fun ls hl => ?_)
  refine lv_goto (tgt := 46) hx hb dX6_init_68 (by decide) ?_
  refine lv_iload_n hx hb dX6_init_46 rfl (lv_at hl 0 rfl) ?_
  refine lv_bipush (v := 6) hx hb dX6_init_47 (by decide) ?_
  refine lv_icmp_gt (tgt := 71) hx hb dX6_init_49 (by decide) (fun c1 => absurd c1 (by decide)) (fun _ => ?_)
  refine lv_aload_n hx hb dX6_init_52 rfl (lv_at hl 1 rfl) ?_
  refine va_get (D := D) (ci := 6) (v := .ref q0) (C := RX6) (T := TX6) (N := 11) hx hb hts iw6_X6_init hown hCn.1 hP 0 rfl rfl 2 (by decide) (hts _ mf11_X6_init) (fun _ h9 => h9) rfl dX6_init_53 ?_
  refine lv_iload_n hx hb dX6_init_56 rfl (lv_at hl 0 rfl) ?_
  refine va_new (D := D) (ci := 1) (fs := [.int 0, .int 0, .int 0, .int 0, .int 0, .int 0, .int 0, .int 0]) (C := RX1) (T := TX1) (N := 8) hx hb hts iw1_X6_init tyX1 tyX1_ok hown (hts _ mcl9_X6_init) (hts _ min1_X6_init) (hts _ mit1_X6_init) hCn.1 hP hD hS hA rfl df_X1 (Nat.le_of_ble_eq_true rfl) (Nat.le_of_ble_eq_true rfl) dX6_init_57 (fun q9 H hP hD hS => ?_)
  have hP : va_P D vwCl ([(h0, .inr (6, [.ref a1, .ref a2, .ref q0, .ref q1, .ref q2, .int 0, .int 0, .int 0, .int 0, .int 0, .int 0])), (q0, .inl (cy 3, 7, .inr (.inr (.inr (.inr (va_up (va_up (va_up (fun _ => none) 0 (some q3)) 1 (some q5)) 2 (some q7))))))), (q1, .inl (cy 0, 6, .inl (fun _ => 0))), (q2, .inl (cy 0, 6, .inl (fun _ => 0)))] ++ wX1 cy q3 u4 ++ wX1 cy q5 u6 ++ wX1 cy q7 u8 ++ [(q9, .inr (1, [.int 0, .int 0, .int 0, .int 0, .int 0, .int 0, .int 0, .int 0]))]) H := hP
  have hD : va_D A ([(h0, .inr (6, [.ref a1, .ref a2, .ref q0, .ref q1, .ref q2, .int 0, .int 0, .int 0, .int 0, .int 0, .int 0])), (q0, .inl (cy 3, 7, .inr (.inr (.inr (.inr (va_up (va_up (va_up (fun _ => none) 0 (some q3)) 1 (some q5)) 2 (some q7))))))), (q1, .inl (cy 0, 6, .inl (fun _ => 0))), (q2, .inl (cy 0, 6, .inl (fun _ => 0)))] ++ wX1 cy q3 u4 ++ wX1 cy q5 u6 ++ wX1 cy q7 u8 ++ [(q9, .inr (1, [.int 0, .int 0, .int 0, .int 0, .int 0, .int 0, .int 0, .int 0]))]) := hD
  refine lv_dup hx hb dX6_init_60 rfl ?_
  refine r_ncall (wr := [(h0, .inr (6, [.ref a1, .ref a2, .ref q0, .ref q1, .ref q2, .int 0, .int 0, .int 0, .int 0, .int 0, .int 0])), (q0, .inl (cy 3, 7, .inr (.inr (.inr (.inr (va_up (va_up (va_up (fun _ => none) 0 (some q3)) 1 (some q5)) 2 (some q7))))))), (q1, .inl (cy 0, 6, .inl (fun _ => 0))), (q2, .inl (cy 0, 6, .inl (fun _ => 0)))] ++ wX1 cy q3 u4 ++ wX1 cy q5 u6 ++ wX1 cy q7 u8) (r_nrunN (As := []) (rest := [.ref q9, .int 3, .ref q0]) S hCn (n_X1 l D cy q9 H.size) (va_cnB 0 hts gX6_init_X1_init_n36 rfl rfl rfl (hCn.2.1.1 (RX6, 36, yX1_init) (by decide +kernel)) (hts _ mit1_X6_init) (by decide +kernel) ⟨Nat.le_of_ble_eq_true rfl, Nat.le_of_ble_eq_true rfl⟩) rfl (hts _ mimX1_init_X6_init) hP hD [7] rfl rfl (by decide) rfl hl.1 rfl (Nat.le_of_ble_eq_true rfl) ⟨Nat.le_of_ble_eq_true rfl, Nat.le_of_ble_eq_true rfl⟩ dX6_init_61) hP hD hS hA [7] [0, 1, 2, 3, 4, 5, 6] rfl rfl (by decide) (by decide) (fun u10 H locs hP hD hS => ?_)
  have hP : va_P D vwCl ([(h0, .inr (6, [.ref a1, .ref a2, .ref q0, .ref q1, .ref q2, .int 0, .int 0, .int 0, .int 0, .int 0, .int 0])), (q0, .inl (cy 3, 7, .inr (.inr (.inr (.inr (va_up (va_up (va_up (fun _ => none) 0 (some q3)) 1 (some q5)) 2 (some q7))))))), (q1, .inl (cy 0, 6, .inl (fun _ => 0))), (q2, .inl (cy 0, 6, .inl (fun _ => 0)))] ++ wX1 cy q3 u4 ++ wX1 cy q5 u6 ++ wX1 cy q7 u8 ++ wX1 cy q9 u10) H := hP
  have hD : va_D A ([(h0, .inr (6, [.ref a1, .ref a2, .ref q0, .ref q1, .ref q2, .int 0, .int 0, .int 0, .int 0, .int 0, .int 0])), (q0, .inl (cy 3, 7, .inr (.inr (.inr (.inr (va_up (va_up (va_up (fun _ => none) 0 (some q3)) 1 (some q5)) 2 (some q7))))))), (q1, .inl (cy 0, 6, .inl (fun _ => 0))), (q2, .inl (cy 0, 6, .inl (fun _ => 0)))] ++ wX1 cy q3 u4 ++ wX1 cy q5 u6 ++ wX1 cy q7 u8 ++ wX1 cy q9 u10) := hD
  refine va_astq (r := (RX1, TX1, 8)) hx hb hCn.1 hP hD hS 1 3 7 1 rfl rfl rfl rfl (vp_in_nI (n := 3) (N := 7) (by decide) (by decide)) dX6_init_64 (fun H locs hP hD hS => ?_)
  have hP : va_P D vwCl ([(h0, .inr (6, [.ref a1, .ref a2, .ref q0, .ref q1, .ref q2, .int 0, .int 0, .int 0, .int 0, .int 0, .int 0])), (q0, .inl (cy 3, 7, .inr (.inr (.inr (.inr (va_up (va_up (va_up (va_up (fun _ => none) 0 (some q3)) 1 (some q5)) 2 (some q7)) 3 (some q9))))))), (q1, .inl (cy 0, 6, .inl (fun _ => 0))), (q2, .inl (cy 0, 6, .inl (fun _ => 0)))] ++ wX1 cy q3 u4 ++ wX1 cy q5 u6 ++ wX1 cy q7 u8 ++ wX1 cy q9 u10) H := hP
  have hD : va_D A ([(h0, .inr (6, [.ref a1, .ref a2, .ref q0, .ref q1, .ref q2, .int 0, .int 0, .int 0, .int 0, .int 0, .int 0])), (q0, .inl (cy 3, 7, .inr (.inr (.inr (.inr (va_up (va_up (va_up (va_up (fun _ => none) 0 (some q3)) 1 (some q5)) 2 (some q7)) 3 (some q9))))))), (q1, .inl (cy 0, 6, .inl (fun _ => 0))), (q2, .inl (cy 0, 6, .inl (fun _ => 0)))] ++ wX1 cy q3 u4 ++ wX1 cy q5 u6 ++ wX1 cy q7 u8 ++ wX1 cy q9 u10) := hD
  refine lv_iinc (v := 4) (lv' := [(3, .int 4), (0, .ref h0), (1, .ref a1), (2, .ref a2)]) hx hb dX6_init_65 hl (k := 0) rfl rfl (by decide) rfl (fun ls hl => ?_)
  refine lv_goto (tgt := 46) hx hb dX6_init_68 (by decide) ?_
  refine lv_iload_n hx hb dX6_init_46 rfl (lv_at hl 0 rfl) ?_
  refine lv_bipush (v := 6) hx hb dX6_init_47 (by decide) ?_
  refine lv_icmp_gt (tgt := 71) hx hb dX6_init_49 (by decide) (fun c1 => absurd c1 (by decide)) (fun _ => ?_)
  refine lv_aload_n hx hb dX6_init_52 rfl (lv_at hl 1 rfl) ?_
  refine va_get (D := D) (ci := 6) (v := .ref q0) (C := RX6) (T := TX6) (N := 11) hx hb hts iw6_X6_init hown hCn.1 hP 0 rfl rfl 2 (by decide) (hts _ mf11_X6_init) (fun _ h9 => h9) rfl dX6_init_53 ?_
  refine lv_iload_n hx hb dX6_init_56 rfl (lv_at hl 0 rfl) ?_
  refine va_new (D := D) (ci := 1) (fs := [.int 0, .int 0, .int 0, .int 0, .int 0, .int 0, .int 0, .int 0]) (C := RX1) (T := TX1) (N := 8) hx hb hts iw1_X6_init tyX1 tyX1_ok hown (hts _ mcl9_X6_init) (hts _ min1_X6_init) (hts _ mit1_X6_init) hCn.1 hP hD hS hA rfl df_X1 (Nat.le_of_ble_eq_true rfl) (Nat.le_of_ble_eq_true rfl) dX6_init_57 (fun q11 H hP hD hS => ?_)
  have hP : va_P D vwCl ([(h0, .inr (6, [.ref a1, .ref a2, .ref q0, .ref q1, .ref q2, .int 0, .int 0, .int 0, .int 0, .int 0, .int 0])), (q0, .inl (cy 3, 7, .inr (.inr (.inr (.inr (va_up (va_up (va_up (va_up (fun _ => none) 0 (some q3)) 1 (some q5)) 2 (some q7)) 3 (some q9))))))), (q1, .inl (cy 0, 6, .inl (fun _ => 0))), (q2, .inl (cy 0, 6, .inl (fun _ => 0)))] ++ wX1 cy q3 u4 ++ wX1 cy q5 u6 ++ wX1 cy q7 u8 ++ wX1 cy q9 u10 ++ [(q11, .inr (1, [.int 0, .int 0, .int 0, .int 0, .int 0, .int 0, .int 0, .int 0]))]) H := hP
  have hD : va_D A ([(h0, .inr (6, [.ref a1, .ref a2, .ref q0, .ref q1, .ref q2, .int 0, .int 0, .int 0, .int 0, .int 0, .int 0])), (q0, .inl (cy 3, 7, .inr (.inr (.inr (.inr (va_up (va_up (va_up (va_up (fun _ => none) 0 (some q3)) 1 (some q5)) 2 (some q7)) 3 (some q9))))))), (q1, .inl (cy 0, 6, .inl (fun _ => 0))), (q2, .inl (cy 0, 6, .inl (fun _ => 0)))] ++ wX1 cy q3 u4 ++ wX1 cy q5 u6 ++ wX1 cy q7 u8 ++ wX1 cy q9 u10 ++ [(q11, .inr (1, [.int 0, .int 0, .int 0, .int 0, .int 0, .int 0, .int 0, .int 0]))]) := hD
  refine lv_dup hx hb dX6_init_60 rfl ?_
  refine r_ncall (wr := [(h0, .inr (6, [.ref a1, .ref a2, .ref q0, .ref q1, .ref q2, .int 0, .int 0, .int 0, .int 0, .int 0, .int 0])), (q0, .inl (cy 3, 7, .inr (.inr (.inr (.inr (va_up (va_up (va_up (va_up (fun _ => none) 0 (some q3)) 1 (some q5)) 2 (some q7)) 3 (some q9))))))), (q1, .inl (cy 0, 6, .inl (fun _ => 0))), (q2, .inl (cy 0, 6, .inl (fun _ => 0)))] ++ wX1 cy q3 u4 ++ wX1 cy q5 u6 ++ wX1 cy q7 u8 ++ wX1 cy q9 u10) (r_nrunN (As := []) (rest := [.ref q11, .int 4, .ref q0]) S hCn (n_X1 l D cy q11 H.size) (va_cnB 0 hts gX6_init_X1_init_n36 rfl rfl rfl (hCn.2.1.1 (RX6, 36, yX1_init) (by decide +kernel)) (hts _ mit1_X6_init) (by decide +kernel) ⟨Nat.le_of_ble_eq_true rfl, Nat.le_of_ble_eq_true rfl⟩) rfl (hts _ mimX1_init_X6_init) hP hD [8] rfl rfl (by decide) rfl hl.1 rfl (Nat.le_of_ble_eq_true rfl) ⟨Nat.le_of_ble_eq_true rfl, Nat.le_of_ble_eq_true rfl⟩ dX6_init_61) hP hD hS hA [8] [0, 1, 2, 3, 4, 5, 6, 7] rfl rfl (by decide) (by decide) (fun u12 H locs hP hD hS => ?_)
  have hP : va_P D vwCl ([(h0, .inr (6, [.ref a1, .ref a2, .ref q0, .ref q1, .ref q2, .int 0, .int 0, .int 0, .int 0, .int 0, .int 0])), (q0, .inl (cy 3, 7, .inr (.inr (.inr (.inr (va_up (va_up (va_up (va_up (fun _ => none) 0 (some q3)) 1 (some q5)) 2 (some q7)) 3 (some q9))))))), (q1, .inl (cy 0, 6, .inl (fun _ => 0))), (q2, .inl (cy 0, 6, .inl (fun _ => 0)))] ++ wX1 cy q3 u4 ++ wX1 cy q5 u6 ++ wX1 cy q7 u8 ++ wX1 cy q9 u10 ++ wX1 cy q11 u12) H := hP
  have hD : va_D A ([(h0, .inr (6, [.ref a1, .ref a2, .ref q0, .ref q1, .ref q2, .int 0, .int 0, .int 0, .int 0, .int 0, .int 0])), (q0, .inl (cy 3, 7, .inr (.inr (.inr (.inr (va_up (va_up (va_up (va_up (fun _ => none) 0 (some q3)) 1 (some q5)) 2 (some q7)) 3 (some q9))))))), (q1, .inl (cy 0, 6, .inl (fun _ => 0))), (q2, .inl (cy 0, 6, .inl (fun _ => 0)))] ++ wX1 cy q3 u4 ++ wX1 cy q5 u6 ++ wX1 cy q7 u8 ++ wX1 cy q9 u10 ++ wX1 cy q11 u12) := hD
  refine va_astq (r := (RX1, TX1, 8)) hx hb hCn.1 hP hD hS 1 3 8 1 rfl rfl rfl rfl (vp_in_nI (n := 4) (N := 7) (by decide) (by decide)) dX6_init_64 (fun H locs hP hD hS => ?_)
  have hP : va_P D vwCl ([(h0, .inr (6, [.ref a1, .ref a2, .ref q0, .ref q1, .ref q2, .int 0, .int 0, .int 0, .int 0, .int 0, .int 0])), (q0, .inl (cy 3, 7, .inr (.inr (.inr (.inr (va_up (va_up (va_up (va_up (va_up (fun _ => none) 0 (some q3)) 1 (some q5)) 2 (some q7)) 3 (some q9)) 4 (some q11))))))), (q1, .inl (cy 0, 6, .inl (fun _ => 0))), (q2, .inl (cy 0, 6, .inl (fun _ => 0)))] ++ wX1 cy q3 u4 ++ wX1 cy q5 u6 ++ wX1 cy q7 u8 ++ wX1 cy q9 u10 ++ wX1 cy q11 u12) H := hP
  have hD : va_D A ([(h0, .inr (6, [.ref a1, .ref a2, .ref q0, .ref q1, .ref q2, .int 0, .int 0, .int 0, .int 0, .int 0, .int 0])), (q0, .inl (cy 3, 7, .inr (.inr (.inr (.inr (va_up (va_up (va_up (va_up (va_up (fun _ => none) 0 (some q3)) 1 (some q5)) 2 (some q7)) 3 (some q9)) 4 (some q11))))))), (q1, .inl (cy 0, 6, .inl (fun _ => 0))), (q2, .inl (cy 0, 6, .inl (fun _ => 0)))] ++ wX1 cy q3 u4 ++ wX1 cy q5 u6 ++ wX1 cy q7 u8 ++ wX1 cy q9 u10 ++ wX1 cy q11 u12) := hD
  refine lv_iinc (v := 5) (lv' := [(3, .int 5), (0, .ref h0), (1, .ref a1), (2, .ref a2)]) hx hb dX6_init_65 hl (k := 0) rfl rfl (by decide) rfl (fun ls hl => ?_)
  refine lv_goto (tgt := 46) hx hb dX6_init_68 (by decide) ?_
  refine lv_iload_n hx hb dX6_init_46 rfl (lv_at hl 0 rfl) ?_
  refine lv_bipush (v := 6) hx hb dX6_init_47 (by decide) ?_
  refine lv_icmp_gt (tgt := 71) hx hb dX6_init_49 (by decide) (fun c1 => absurd c1 (by decide)) (fun _ => ?_)
  refine lv_aload_n hx hb dX6_init_52 rfl (lv_at hl 1 rfl) ?_
  refine va_get (D := D) (ci := 6) (v := .ref q0) (C := RX6) (T := TX6) (N := 11) hx hb hts iw6_X6_init hown hCn.1 hP 0 rfl rfl 2 (by decide) (hts _ mf11_X6_init) (fun _ h9 => h9) rfl dX6_init_53 ?_
  refine lv_iload_n hx hb dX6_init_56 rfl (lv_at hl 0 rfl) ?_
  refine va_new (D := D) (ci := 1) (fs := [.int 0, .int 0, .int 0, .int 0, .int 0, .int 0, .int 0, .int 0]) (C := RX1) (T := TX1) (N := 8) hx hb hts iw1_X6_init tyX1 tyX1_ok hown (hts _ mcl9_X6_init) (hts _ min1_X6_init) (hts _ mit1_X6_init) hCn.1 hP hD hS hA rfl df_X1 (Nat.le_of_ble_eq_true rfl) (Nat.le_of_ble_eq_true rfl) dX6_init_57 (fun q13 H hP hD hS => ?_)
  have hP : va_P D vwCl ([(h0, .inr (6, [.ref a1, .ref a2, .ref q0, .ref q1, .ref q2, .int 0, .int 0, .int 0, .int 0, .int 0, .int 0])), (q0, .inl (cy 3, 7, .inr (.inr (.inr (.inr (va_up (va_up (va_up (va_up (va_up (fun _ => none) 0 (some q3)) 1 (some q5)) 2 (some q7)) 3 (some q9)) 4 (some q11))))))), (q1, .inl (cy 0, 6, .inl (fun _ => 0))), (q2, .inl (cy 0, 6, .inl (fun _ => 0)))] ++ wX1 cy q3 u4 ++ wX1 cy q5 u6 ++ wX1 cy q7 u8 ++ wX1 cy q9 u10 ++ wX1 cy q11 u12 ++ [(q13, .inr (1, [.int 0, .int 0, .int 0, .int 0, .int 0, .int 0, .int 0, .int 0]))]) H := hP
  have hD : va_D A ([(h0, .inr (6, [.ref a1, .ref a2, .ref q0, .ref q1, .ref q2, .int 0, .int 0, .int 0, .int 0, .int 0, .int 0])), (q0, .inl (cy 3, 7, .inr (.inr (.inr (.inr (va_up (va_up (va_up (va_up (va_up (fun _ => none) 0 (some q3)) 1 (some q5)) 2 (some q7)) 3 (some q9)) 4 (some q11))))))), (q1, .inl (cy 0, 6, .inl (fun _ => 0))), (q2, .inl (cy 0, 6, .inl (fun _ => 0)))] ++ wX1 cy q3 u4 ++ wX1 cy q5 u6 ++ wX1 cy q7 u8 ++ wX1 cy q9 u10 ++ wX1 cy q11 u12 ++ [(q13, .inr (1, [.int 0, .int 0, .int 0, .int 0, .int 0, .int 0, .int 0, .int 0]))]) := hD
  refine lv_dup hx hb dX6_init_60 rfl ?_
  refine r_ncall (wr := [(h0, .inr (6, [.ref a1, .ref a2, .ref q0, .ref q1, .ref q2, .int 0, .int 0, .int 0, .int 0, .int 0, .int 0])), (q0, .inl (cy 3, 7, .inr (.inr (.inr (.inr (va_up (va_up (va_up (va_up (va_up (fun _ => none) 0 (some q3)) 1 (some q5)) 2 (some q7)) 3 (some q9)) 4 (some q11))))))), (q1, .inl (cy 0, 6, .inl (fun _ => 0))), (q2, .inl (cy 0, 6, .inl (fun _ => 0)))] ++ wX1 cy q3 u4 ++ wX1 cy q5 u6 ++ wX1 cy q7 u8 ++ wX1 cy q9 u10 ++ wX1 cy q11 u12) (r_nrunN (As := []) (rest := [.ref q13, .int 5, .ref q0]) S hCn (n_X1 l D cy q13 H.size) (va_cnB 0 hts gX6_init_X1_init_n36 rfl rfl rfl (hCn.2.1.1 (RX6, 36, yX1_init) (by decide +kernel)) (hts _ mit1_X6_init) (by decide +kernel) ⟨Nat.le_of_ble_eq_true rfl, Nat.le_of_ble_eq_true rfl⟩) rfl (hts _ mimX1_init_X6_init) hP hD [9] rfl rfl (by decide) rfl hl.1 rfl (Nat.le_of_ble_eq_true rfl) ⟨Nat.le_of_ble_eq_true rfl, Nat.le_of_ble_eq_true rfl⟩ dX6_init_61) hP hD hS hA [9] [0, 1, 2, 3, 4, 5, 6, 7, 8] rfl rfl (by decide) (by decide) (fun u14 H locs hP hD hS => ?_)
  have hP : va_P D vwCl ([(h0, .inr (6, [.ref a1, .ref a2, .ref q0, .ref q1, .ref q2, .int 0, .int 0, .int 0, .int 0, .int 0, .int 0])), (q0, .inl (cy 3, 7, .inr (.inr (.inr (.inr (va_up (va_up (va_up (va_up (va_up (fun _ => none) 0 (some q3)) 1 (some q5)) 2 (some q7)) 3 (some q9)) 4 (some q11))))))), (q1, .inl (cy 0, 6, .inl (fun _ => 0))), (q2, .inl (cy 0, 6, .inl (fun _ => 0)))] ++ wX1 cy q3 u4 ++ wX1 cy q5 u6 ++ wX1 cy q7 u8 ++ wX1 cy q9 u10 ++ wX1 cy q11 u12 ++ wX1 cy q13 u14) H := hP
  have hD : va_D A ([(h0, .inr (6, [.ref a1, .ref a2, .ref q0, .ref q1, .ref q2, .int 0, .int 0, .int 0, .int 0, .int 0, .int 0])), (q0, .inl (cy 3, 7, .inr (.inr (.inr (.inr (va_up (va_up (va_up (va_up (va_up (fun _ => none) 0 (some q3)) 1 (some q5)) 2 (some q7)) 3 (some q9)) 4 (some q11))))))), (q1, .inl (cy 0, 6, .inl (fun _ => 0))), (q2, .inl (cy 0, 6, .inl (fun _ => 0)))] ++ wX1 cy q3 u4 ++ wX1 cy q5 u6 ++ wX1 cy q7 u8 ++ wX1 cy q9 u10 ++ wX1 cy q11 u12 ++ wX1 cy q13 u14) := hD
  refine va_astq (r := (RX1, TX1, 8)) hx hb hCn.1 hP hD hS 1 3 9 1 rfl rfl rfl rfl (vp_in_nI (n := 5) (N := 7) (by decide) (by decide)) dX6_init_64 (fun H locs hP hD hS => ?_)
  have hP : va_P D vwCl ([(h0, .inr (6, [.ref a1, .ref a2, .ref q0, .ref q1, .ref q2, .int 0, .int 0, .int 0, .int 0, .int 0, .int 0])), (q0, .inl (cy 3, 7, .inr (.inr (.inr (.inr (va_up (va_up (va_up (va_up (va_up (va_up (fun _ => none) 0 (some q3)) 1 (some q5)) 2 (some q7)) 3 (some q9)) 4 (some q11)) 5 (some q13))))))), (q1, .inl (cy 0, 6, .inl (fun _ => 0))), (q2, .inl (cy 0, 6, .inl (fun _ => 0)))] ++ wX1 cy q3 u4 ++ wX1 cy q5 u6 ++ wX1 cy q7 u8 ++ wX1 cy q9 u10 ++ wX1 cy q11 u12 ++ wX1 cy q13 u14) H := hP
  have hD : va_D A ([(h0, .inr (6, [.ref a1, .ref a2, .ref q0, .ref q1, .ref q2, .int 0, .int 0, .int 0, .int 0, .int 0, .int 0])), (q0, .inl (cy 3, 7, .inr (.inr (.inr (.inr (va_up (va_up (va_up (va_up (va_up (va_up (fun _ => none) 0 (some q3)) 1 (some q5)) 2 (some q7)) 3 (some q9)) 4 (some q11)) 5 (some q13))))))), (q1, .inl (cy 0, 6, .inl (fun _ => 0))), (q2, .inl (cy 0, 6, .inl (fun _ => 0)))] ++ wX1 cy q3 u4 ++ wX1 cy q5 u6 ++ wX1 cy q7 u8 ++ wX1 cy q9 u10 ++ wX1 cy q11 u12 ++ wX1 cy q13 u14) := hD
  refine lv_iinc (v := 6) (lv' := [(3, .int 6), (0, .ref h0), (1, .ref a1), (2, .ref a2)]) hx hb dX6_init_65 hl (k := 0) rfl rfl (by decide) rfl (fun ls hl => ?_)
  refine lv_goto (tgt := 46) hx hb dX6_init_68 (by decide) ?_
  refine lv_iload_n hx hb dX6_init_46 rfl (lv_at hl 0 rfl) ?_
  refine lv_bipush (v := 6) hx hb dX6_init_47 (by decide) ?_
  refine lv_icmp_gt (tgt := 71) hx hb dX6_init_49 (by decide) (fun c1 => absurd c1 (by decide)) (fun _ => ?_)
  refine lv_aload_n hx hb dX6_init_52 rfl (lv_at hl 1 rfl) ?_
  refine va_get (D := D) (ci := 6) (v := .ref q0) (C := RX6) (T := TX6) (N := 11) hx hb hts iw6_X6_init hown hCn.1 hP 0 rfl rfl 2 (by decide) (hts _ mf11_X6_init) (fun _ h9 => h9) rfl dX6_init_53 ?_
  refine lv_iload_n hx hb dX6_init_56 rfl (lv_at hl 0 rfl) ?_
  refine va_new (D := D) (ci := 1) (fs := [.int 0, .int 0, .int 0, .int 0, .int 0, .int 0, .int 0, .int 0]) (C := RX1) (T := TX1) (N := 8) hx hb hts iw1_X6_init tyX1 tyX1_ok hown (hts _ mcl9_X6_init) (hts _ min1_X6_init) (hts _ mit1_X6_init) hCn.1 hP hD hS hA rfl df_X1 (Nat.le_of_ble_eq_true rfl) (Nat.le_of_ble_eq_true rfl) dX6_init_57 (fun q15 H hP hD hS => ?_)
  have hP : va_P D vwCl ([(h0, .inr (6, [.ref a1, .ref a2, .ref q0, .ref q1, .ref q2, .int 0, .int 0, .int 0, .int 0, .int 0, .int 0])), (q0, .inl (cy 3, 7, .inr (.inr (.inr (.inr (va_up (va_up (va_up (va_up (va_up (va_up (fun _ => none) 0 (some q3)) 1 (some q5)) 2 (some q7)) 3 (some q9)) 4 (some q11)) 5 (some q13))))))), (q1, .inl (cy 0, 6, .inl (fun _ => 0))), (q2, .inl (cy 0, 6, .inl (fun _ => 0)))] ++ wX1 cy q3 u4 ++ wX1 cy q5 u6 ++ wX1 cy q7 u8 ++ wX1 cy q9 u10 ++ wX1 cy q11 u12 ++ wX1 cy q13 u14 ++ [(q15, .inr (1, [.int 0, .int 0, .int 0, .int 0, .int 0, .int 0, .int 0, .int 0]))]) H := hP
  have hD : va_D A ([(h0, .inr (6, [.ref a1, .ref a2, .ref q0, .ref q1, .ref q2, .int 0, .int 0, .int 0, .int 0, .int 0, .int 0])), (q0, .inl (cy 3, 7, .inr (.inr (.inr (.inr (va_up (va_up (va_up (va_up (va_up (va_up (fun _ => none) 0 (some q3)) 1 (some q5)) 2 (some q7)) 3 (some q9)) 4 (some q11)) 5 (some q13))))))), (q1, .inl (cy 0, 6, .inl (fun _ => 0))), (q2, .inl (cy 0, 6, .inl (fun _ => 0)))] ++ wX1 cy q3 u4 ++ wX1 cy q5 u6 ++ wX1 cy q7 u8 ++ wX1 cy q9 u10 ++ wX1 cy q11 u12 ++ wX1 cy q13 u14 ++ [(q15, .inr (1, [.int 0, .int 0, .int 0, .int 0, .int 0, .int 0, .int 0, .int 0]))]) := hD
  refine lv_dup hx hb dX6_init_60 rfl ?_
  refine r_ncall (wr := [(h0, .inr (6, [.ref a1, .ref a2, .ref q0, .ref q1, .ref q2, .int 0, .int 0, .int 0, .int 0, .int 0, .int 0])), (q0, .inl (cy 3, 7, .inr (.inr (.inr (.inr (va_up (va_up (va_up (va_up (va_up (va_up (fun _ => none) 0 (some q3)) 1 (some q5)) 2 (some q7)) 3 (some q9)) 4 (some q11)) 5 (some q13))))))), (q1, .inl (cy 0, 6, .inl (fun _ => 0))), (q2, .inl (cy 0, 6, .inl (fun _ => 0)))] ++ wX1 cy q3 u4 ++ wX1 cy q5 u6 ++ wX1 cy q7 u8 ++ wX1 cy q9 u10 ++ wX1 cy q11 u12 ++ wX1 cy q13 u14) (r_nrunN (As := []) (rest := [.ref q15, .int 6, .ref q0]) S hCn (n_X1 l D cy q15 H.size) (va_cnB 0 hts gX6_init_X1_init_n36 rfl rfl rfl (hCn.2.1.1 (RX6, 36, yX1_init) (by decide +kernel)) (hts _ mit1_X6_init) (by decide +kernel) ⟨Nat.le_of_ble_eq_true rfl, Nat.le_of_ble_eq_true rfl⟩) rfl (hts _ mimX1_init_X6_init) hP hD [10] rfl rfl (by decide) rfl hl.1 rfl (Nat.le_of_ble_eq_true rfl) ⟨Nat.le_of_ble_eq_true rfl, Nat.le_of_ble_eq_true rfl⟩ dX6_init_61) hP hD hS hA [10] [0, 1, 2, 3, 4, 5, 6, 7, 8, 9] rfl rfl (by decide) (by decide) (fun u16 H locs hP hD hS => ?_)
  have hP : va_P D vwCl ([(h0, .inr (6, [.ref a1, .ref a2, .ref q0, .ref q1, .ref q2, .int 0, .int 0, .int 0, .int 0, .int 0, .int 0])), (q0, .inl (cy 3, 7, .inr (.inr (.inr (.inr (va_up (va_up (va_up (va_up (va_up (va_up (fun _ => none) 0 (some q3)) 1 (some q5)) 2 (some q7)) 3 (some q9)) 4 (some q11)) 5 (some q13))))))), (q1, .inl (cy 0, 6, .inl (fun _ => 0))), (q2, .inl (cy 0, 6, .inl (fun _ => 0)))] ++ wX1 cy q3 u4 ++ wX1 cy q5 u6 ++ wX1 cy q7 u8 ++ wX1 cy q9 u10 ++ wX1 cy q11 u12 ++ wX1 cy q13 u14 ++ wX1 cy q15 u16) H := hP
  have hD : va_D A ([(h0, .inr (6, [.ref a1, .ref a2, .ref q0, .ref q1, .ref q2, .int 0, .int 0, .int 0, .int 0, .int 0, .int 0])), (q0, .inl (cy 3, 7, .inr (.inr (.inr (.inr (va_up (va_up (va_up (va_up (va_up (va_up (fun _ => none) 0 (some q3)) 1 (some q5)) 2 (some q7)) 3 (some q9)) 4 (some q11)) 5 (some q13))))))), (q1, .inl (cy 0, 6, .inl (fun _ => 0))), (q2, .inl (cy 0, 6, .inl (fun _ => 0)))] ++ wX1 cy q3 u4 ++ wX1 cy q5 u6 ++ wX1 cy q7 u8 ++ wX1 cy q9 u10 ++ wX1 cy q11 u12 ++ wX1 cy q13 u14 ++ wX1 cy q15 u16) := hD
  refine va_astq (r := (RX1, TX1, 8)) hx hb hCn.1 hP hD hS 1 3 10 1 rfl rfl rfl rfl (vp_in_nI (n := 6) (N := 7) (by decide) (by decide)) dX6_init_64 (fun H locs hP hD hS => ?_)
  have hP : va_P D vwCl ([(h0, .inr (6, [.ref a1, .ref a2, .ref q0, .ref q1, .ref q2, .int 0, .int 0, .int 0, .int 0, .int 0, .int 0])), (q0, .inl (cy 3, 7, .inr (.inr (.inr (.inr (va_up (va_up (va_up (va_up (va_up (va_up (va_up (fun _ => none) 0 (some q3)) 1 (some q5)) 2 (some q7)) 3 (some q9)) 4 (some q11)) 5 (some q13)) 6 (some q15))))))), (q1, .inl (cy 0, 6, .inl (fun _ => 0))), (q2, .inl (cy 0, 6, .inl (fun _ => 0)))] ++ wX1 cy q3 u4 ++ wX1 cy q5 u6 ++ wX1 cy q7 u8 ++ wX1 cy q9 u10 ++ wX1 cy q11 u12 ++ wX1 cy q13 u14 ++ wX1 cy q15 u16) H := hP
  have hD : va_D A ([(h0, .inr (6, [.ref a1, .ref a2, .ref q0, .ref q1, .ref q2, .int 0, .int 0, .int 0, .int 0, .int 0, .int 0])), (q0, .inl (cy 3, 7, .inr (.inr (.inr (.inr (va_up (va_up (va_up (va_up (va_up (va_up (va_up (fun _ => none) 0 (some q3)) 1 (some q5)) 2 (some q7)) 3 (some q9)) 4 (some q11)) 5 (some q13)) 6 (some q15))))))), (q1, .inl (cy 0, 6, .inl (fun _ => 0))), (q2, .inl (cy 0, 6, .inl (fun _ => 0)))] ++ wX1 cy q3 u4 ++ wX1 cy q5 u6 ++ wX1 cy q7 u8 ++ wX1 cy q9 u10 ++ wX1 cy q11 u12 ++ wX1 cy q13 u14 ++ wX1 cy q15 u16) := hD
  refine lv_iinc (v := 7) (lv' := [(3, .int 7), (0, .ref h0), (1, .ref a1), (2, .ref a2)]) hx hb dX6_init_65 hl (k := 0) rfl rfl (by decide) rfl (fun ls hl => ?_)
  refine lv_goto (tgt := 46) hx hb dX6_init_68 (by decide) ?_
  refine lv_iload_n hx hb dX6_init_46 rfl (lv_at hl 0 rfl) ?_
  refine lv_bipush (v := 6) hx hb dX6_init_47 (by decide) ?_
  refine lv_icmp_gt (tgt := 71) hx hb dX6_init_49 (by decide) (fun _ => ?_) (fun c1 => absurd (by decide) c1)
  refine W.widen (k := 10) (n := 75) (Nat.le_of_ble_eq_true rfl) (Nat.le_of_ble_eq_true rfl) ?_
  exact r_nret (w1 := wX6 cy h0 a1 a2) S hr hlocks (fun k => ([q0, q1, q2, q3, q5, q7, q9, q11, q13, q15] : List Nat).getD k 0) (hP.sub [0, 1, 2, 3, 4, 5, 6, 7, 8, 9, 10] rfl) (hD.sub [0, 1, 2, 3, 4, 5, 6, 7, 8, 9, 10] (by decide) rfl) hS dX6_init_71
theorem moi_X7_init : Cond.methodLink RX7 3 objectInit ∈ wsX7_init := by decide +kernel
theorem mom_X7_init : Cond.instanceMethod objectInit ∈ wsX7_init := by decide +kernel
theorem moc_X7_init : Cond.code objectInit ⟨#[0xb1]⟩ 1 none ∈ wsX7_init := by decide +kernel
set_option maxRecDepth 20000 in
theorem iw4_X7_init : ∀ w ∈ u_ws RX4 TX4 4, w ∈ wsX7_init := by decide +kernel
theorem mcl9_X7_init : Cond.classLink RX7 9 RX4 ∈ wsX7_init := by decide +kernel
theorem min4_X7_init : Cond.instantiable RX4 4 ∈ wsX7_init := by decide +kernel
theorem mit4_X7_init : Cond.initialized RX4 ∈ wsX7_init := by decide +kernel
theorem mimX4_init_X7_init : Cond.instanceMethod yX4_init ∈ wsX7_init := by decide +kernel
theorem mf12_X7_init : Cond.fieldLink RX7 12 "GasVoyages$WayCounter" "here" "LGasVoyages$Front;" ∈ wsX7_init := by decide +kernel
set_option maxRecDepth 20000 in
theorem iw7_X7_init : ∀ w ∈ u_ws RX7 TX7 6, w ∈ wsX7_init := by decide +kernel
theorem mf18_X7_init : Cond.fieldLink RX7 18 "GasVoyages$WayCounter" "there" "LGasVoyages$Front;" ∈ wsX7_init := by decide +kernel
theorem mf21_X7_init : Cond.fieldLink RX7 21 "GasVoyages$WayCounter" "land" "LGasVoyages$Land;" ∈ wsX7_init := by decide +kernel
theorem mf25_X7_init : Cond.fieldLink RX7 25 "GasVoyages$WayCounter" "winds" "LGasVoyages$Winds;" ∈ wsX7_init := by decide +kernel
abbrev wX7 (cy : Nat → ClassId) (h0 a1 a2 : Nat) (u : Nat → Nat) : va_W := [(h0, .inr (7, [.ref a1, .ref a2, .ref (u 0), .ref (u 4), .int 0, .int 0])), ((u 0), .inr (4, [.ref (u 1), .ref (u 2), .ref (u 3), .int 0])), ((u 1), .inl (cy 0, 4608, .inl (fun _ => 0))), ((u 2), .inl (cy 0, 4608, .inl (fun _ => 0))), ((u 3), .inl (cy 0, 4608, .inl (fun _ => 0))), ((u 4), .inr (4, [.ref (u 5), .ref (u 6), .ref (u 7), .int 0])), ((u 5), .inl (cy 0, 4608, .inl (fun _ => 0))), ((u 6), .inl (cy 0, 4608, .inl (fun _ => 0))), ((u 7), .inl (cy 0, 4608, .inl (fun _ => 0)))]
set_option maxRecDepth 100000 in
set_option maxHeartbeats 8000000 in
theorem n_X7 (l : Launch) (D : va_G) (cy : Nat → ClassId) (h0 a1 a2 : Nat) (sz : Nat) : Kn l yX7_init wsX7_init 2 8 27656 D cy sz [(h0, .inr (7, [.null, .null, .null, .null, .int 0, .int 0]))] (wX7 cy h0 a1 a2) [.ref h0, .ref a1, .ref a2] := by
  refine r_nstart (by decide) rfl rfl [.ref h0, .ref a1, .ref a2] (Nat.le_of_ble_eq_true rfl) ?_
  intro p e s m below meth c A S hr hlocks hin hCn hA hP hD ls hl
  have hl : lv_has ls 3 [(0, .ref h0), (1, .ref a1), (2, .ref a2)] := hl
  obtain ⟨hx, hb, hml, hown, hts⟩ := id S
  have hS : va_S A s.heap s.heap [] := va_S.rf
  refine lv_aload_n hx hb dX7_init_0 rfl (lv_at hl 0 rfl) ?_
  refine W.objInit hx hb hown (hts _ moi_X7_init) (hts _ mom_X7_init) (hts _ moc_X7_init) rfl (by rw [hml]; exact hl.1) rfl dX7_init_1 (Nat.le_of_ble_eq_true rfl) (Nat.le_of_ble_eq_true rfl) ?_
  refine W.eq (g2 := F0 m 4 ls []) rfl ?_
  refine lv_aload_n hx hb dX7_init_4 rfl (lv_at hl 0 rfl) ?_
  refine va_new (D := D) (ci := 4) (fs := [.null, .null, .null, .int 0]) (C := RX4) (T := TX4) (N := 4) hx hb hts iw4_X7_init tyX4 tyX4_ok hown (hts _ mcl9_X7_init) (hts _ min4_X7_init) (hts _ mit4_X7_init) hCn.1 hP hD hS hA rfl df_X4 (Nat.le_of_ble_eq_true rfl) (Nat.le_of_ble_eq_true rfl) dX7_init_5 (fun q0 H hP hD hS => ?_)
  have hP : va_P D vwCl ([(h0, .inr (7, [.null, .null, .null, .null, .int 0, .int 0])), (q0, .inr (4, [.null, .null, .null, .int 0]))]) H := hP
  have hD : va_D A ([(h0, .inr (7, [.null, .null, .null, .null, .int 0, .int 0])), (q0, .inr (4, [.null, .null, .null, .int 0]))]) := hD
  refine lv_dup hx hb dX7_init_8 rfl ?_
  refine r_ncall (wr := [(h0, .inr (7, [.null, .null, .null, .null, .int 0, .int 0]))]) (r_nrunN (As := []) (rest := [.ref q0, .ref h0]) S hCn (n_X4 l D cy q0 H.size) (va_cnB 0 hts gX7_init_X4_init_n11 rfl rfl rfl (hCn.2.1.1 (RX7, 11, yX4_init) (by decide +kernel)) (hts _ mit4_X7_init) (by decide +kernel) ⟨Nat.le_of_ble_eq_true rfl, Nat.le_of_ble_eq_true rfl⟩) rfl (hts _ mimX4_init_X7_init) hP hD [1] rfl rfl (by decide) rfl hl.1 rfl (Nat.le_of_ble_eq_true rfl) ⟨Nat.le_of_ble_eq_true rfl, Nat.le_of_ble_eq_true rfl⟩ dX7_init_9) hP hD hS hA [1] [0] rfl rfl (by decide) (by decide) (fun u1 H locs hP hD hS => ?_)
  have hP : va_P D vwCl ([(h0, .inr (7, [.null, .null, .null, .null, .int 0, .int 0]))] ++ wX4 cy q0 u1) H := hP
  have hD : va_D A ([(h0, .inr (7, [.null, .null, .null, .null, .int 0, .int 0]))] ++ wX4 cy q0 u1) := hD
  refine va_put (D := D) (ci := 7) (v := .ref q0) (ty := .object "GasVoyages$Front") (C := RX7) (T := TX7) (N := 6) hx hb hts iw7_X7_init tyX7 tyX7_ok nmX7 hown hCn.1 hP hD hS 0 rfl rfl 2 (by decide) (hts _ mf12_X7_init) (fun _ h9 => h9) rfl (by decide +kernel) rfl rfl (Nat.le_of_ble_eq_true rfl) dX7_init_12 (fun H locs hP hD hS => ?_)
  have hP : va_P D vwCl ([(h0, .inr (7, [.null, .null, .ref q0, .null, .int 0, .int 0]))] ++ wX4 cy q0 u1) H := hP
  have hD : va_D A ([(h0, .inr (7, [.null, .null, .ref q0, .null, .int 0, .int 0]))] ++ wX4 cy q0 u1) := hD
  refine lv_aload_n hx hb dX7_init_15 rfl (lv_at hl 0 rfl) ?_
  refine va_new (D := D) (ci := 4) (fs := [.null, .null, .null, .int 0]) (C := RX4) (T := TX4) (N := 4) hx hb hts iw4_X7_init tyX4 tyX4_ok hown (hts _ mcl9_X7_init) (hts _ min4_X7_init) (hts _ mit4_X7_init) hCn.1 hP hD hS hA rfl df_X4 (Nat.le_of_ble_eq_true rfl) (Nat.le_of_ble_eq_true rfl) dX7_init_16 (fun q2 H hP hD hS => ?_)
  have hP : va_P D vwCl ([(h0, .inr (7, [.null, .null, .ref q0, .null, .int 0, .int 0]))] ++ wX4 cy q0 u1 ++ [(q2, .inr (4, [.null, .null, .null, .int 0]))]) H := hP
  have hD : va_D A ([(h0, .inr (7, [.null, .null, .ref q0, .null, .int 0, .int 0]))] ++ wX4 cy q0 u1 ++ [(q2, .inr (4, [.null, .null, .null, .int 0]))]) := hD
  refine lv_dup hx hb dX7_init_19 rfl ?_
  refine r_ncall (wr := [(h0, .inr (7, [.null, .null, .ref q0, .null, .int 0, .int 0]))] ++ wX4 cy q0 u1) (r_nrunN (As := []) (rest := [.ref q2, .ref h0]) S hCn (n_X4 l D cy q2 H.size) (va_cnB 0 hts gX7_init_X4_init_n11 rfl rfl rfl (hCn.2.1.1 (RX7, 11, yX4_init) (by decide +kernel)) (hts _ mit4_X7_init) (by decide +kernel) ⟨Nat.le_of_ble_eq_true rfl, Nat.le_of_ble_eq_true rfl⟩) rfl (hts _ mimX4_init_X7_init) hP hD [5] rfl rfl (by decide) rfl hl.1 rfl (Nat.le_of_ble_eq_true rfl) ⟨Nat.le_of_ble_eq_true rfl, Nat.le_of_ble_eq_true rfl⟩ dX7_init_20) hP hD hS hA [5] [0, 1, 2, 3, 4] rfl rfl (by decide) (by decide) (fun u3 H locs hP hD hS => ?_)
  have hP : va_P D vwCl ([(h0, .inr (7, [.null, .null, .ref q0, .null, .int 0, .int 0]))] ++ wX4 cy q0 u1 ++ wX4 cy q2 u3) H := hP
  have hD : va_D A ([(h0, .inr (7, [.null, .null, .ref q0, .null, .int 0, .int 0]))] ++ wX4 cy q0 u1 ++ wX4 cy q2 u3) := hD
  refine va_put (D := D) (ci := 7) (v := .ref q2) (ty := .object "GasVoyages$Front") (C := RX7) (T := TX7) (N := 6) hx hb hts iw7_X7_init tyX7 tyX7_ok nmX7 hown hCn.1 hP hD hS 0 rfl rfl 3 (by decide) (hts _ mf18_X7_init) (fun _ h9 => h9) rfl (by decide +kernel) rfl rfl (Nat.le_of_ble_eq_true rfl) dX7_init_23 (fun H locs hP hD hS => ?_)
  have hP : va_P D vwCl ([(h0, .inr (7, [.null, .null, .ref q0, .ref q2, .int 0, .int 0]))] ++ wX4 cy q0 u1 ++ wX4 cy q2 u3) H := hP
  have hD : va_D A ([(h0, .inr (7, [.null, .null, .ref q0, .ref q2, .int 0, .int 0]))] ++ wX4 cy q0 u1 ++ wX4 cy q2 u3) := hD
  refine lv_aload_n hx hb dX7_init_26 rfl (lv_at hl 0 rfl) ?_
  refine lv_aload_n hx hb dX7_init_27 rfl (lv_at hl 1 rfl) ?_
  refine va_putF (D := D) (ci := 7) (v := .ref a1) (ty := .object "GasVoyages$Land") (C := RX7) (T := TX7) (N := 6) hx hb hts iw7_X7_init tyX7 tyX7_ok nmX7 hown hCn.1 hP hD hS 0 rfl rfl 0 (by decide) (hts _ mf21_X7_init) (fun _ h9 => h9) rfl hin rfl (by decide +kernel) rfl rfl (Nat.le_of_ble_eq_true rfl) dX7_init_28 (fun H locs hP hD hS => ?_)
  have hP : va_P D vwCl ([(h0, .inr (7, [.ref a1, .null, .ref q0, .ref q2, .int 0, .int 0]))] ++ wX4 cy q0 u1 ++ wX4 cy q2 u3) H := hP
  have hD : va_D A ([(h0, .inr (7, [.ref a1, .null, .ref q0, .ref q2, .int 0, .int 0]))] ++ wX4 cy q0 u1 ++ wX4 cy q2 u3) := hD
  refine lv_aload_n hx hb dX7_init_31 rfl (lv_at hl 0 rfl) ?_
  refine lv_aload_n hx hb dX7_init_32 rfl (lv_at hl 2 rfl) ?_
  refine va_putF (D := D) (ci := 7) (v := .ref a2) (ty := .object "GasVoyages$Winds") (C := RX7) (T := TX7) (N := 6) hx hb hts iw7_X7_init tyX7 tyX7_ok nmX7 hown hCn.1 hP hD hS 0 rfl rfl 1 (by decide) (hts _ mf25_X7_init) (fun _ h9 => h9) rfl hin rfl (by decide +kernel) rfl rfl (Nat.le_of_ble_eq_true rfl) dX7_init_33 (fun H locs hP hD hS => ?_)
  have hP : va_P D vwCl ([(h0, .inr (7, [.ref a1, .ref a2, .ref q0, .ref q2, .int 0, .int 0]))] ++ wX4 cy q0 u1 ++ wX4 cy q2 u3) H := hP
  have hD : va_D A ([(h0, .inr (7, [.ref a1, .ref a2, .ref q0, .ref q2, .int 0, .int 0]))] ++ wX4 cy q0 u1 ++ wX4 cy q2 u3) := hD
  refine W.widen (k := 8) (n := 27656) (Nat.le_of_ble_eq_true rfl) (Nat.le_of_ble_eq_true rfl) ?_
  exact r_nret (w1 := wX7 cy h0 a1 a2) S hr hlocks (fun k => ([q0, (u1 0), (u1 1), (u1 2), q2, (u3 0), (u3 1), (u3 2)] : List Nat).getD k 0) (hP.sub [0, 1, 2, 3, 4, 5, 6, 7, 8] rfl) (hD.sub [0, 1, 2, 3, 4, 5, 6, 7, 8] (by decide) rfl) hS dX7_init_36
