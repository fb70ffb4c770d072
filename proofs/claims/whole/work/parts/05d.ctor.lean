theorem moi_X9_init : Cond.methodLink RX9 3 objectInit ∈ wsX9_init := by decide +kernel
theorem mom_X9_init : Cond.instanceMethod objectInit ∈ wsX9_init := by decide +kernel
theorem moc_X9_init : Cond.code objectInit ⟨#[0xb1]⟩ 1 none ∈ wsX9_init := by decide +kernel
set_option maxRecDepth 20000 in
theorem iw5_X9_init : ∀ w ∈ u_ws RX5 TX5 3, w ∈ wsX9_init := by decide +kernel
theorem mcl9_X9_init : Cond.classLink RX9 9 RX5 ∈ wsX9_init := by decide +kernel
theorem min5_X9_init : Cond.instantiable RX5 3 ∈ wsX9_init := by decide +kernel
theorem mit5_X9_init : Cond.initialized RX5 ∈ wsX9_init := by decide +kernel
theorem mimX5_init_X9_init : Cond.instanceMethod yX5_init ∈ wsX9_init := by decide +kernel
theorem mf12_X9_init : Cond.fieldLink RX9 12 "GasVoyages" "ground" "LGasVoyages$Land;" ∈ wsX9_init := by decide +kernel
set_option maxRecDepth 20000 in
theorem iw9_X9_init : ∀ w ∈ u_ws RX9 TX9 8, w ∈ wsX9_init := by decide +kernel
set_option maxRecDepth 20000 in
theorem iw0_X9_init : ∀ w ∈ u_ws RX0 TX0 5, w ∈ wsX9_init := by decide +kernel
theorem mcl16_X9_init : Cond.classLink RX9 16 RX0 ∈ wsX9_init := by decide +kernel
theorem min0_X9_init : Cond.instantiable RX0 5 ∈ wsX9_init := by decide +kernel
theorem mit0_X9_init : Cond.initialized RX0 ∈ wsX9_init := by decide +kernel
theorem mimX0_init_X9_init : Cond.instanceMethod yX0_init ∈ wsX9_init := by decide +kernel
theorem ml18_X9_init : Cond.methodLink RX9 18 yX0_init ∈ wsX9_init := by decide +kernel
theorem mf19_X9_init : Cond.fieldLink RX9 19 "GasVoyages" "air" "LGasVoyages$Air;" ∈ wsX9_init := by decide +kernel
theorem mcl23_X9_init : Cond.classLink RX9 23 RX3 ∈ wsX9_init := by decide +kernel
theorem mf25_X9_init : Cond.fieldLink RX9 25 "GasVoyages" "flights" "[LGasVoyages$Flight;" ∈ wsX9_init := by decide +kernel
theorem macz_X9_init : Cond.arrayClass .boolean ∈ wsX9_init := by decide +kernel
theorem mf29_X9_init : Cond.fieldLink RX9 29 "GasVoyages" "ranked" "[Z" ∈ wsX9_init := by decide +kernel
theorem mf33_X9_init : Cond.fieldLink RX9 33 "GasVoyages" "flightCount" "I" ∈ wsX9_init := by decide +kernel
set_option maxRecDepth 20000 in
theorem iw6_X9_init : ∀ w ∈ u_ws RX6 TX6 11, w ∈ wsX9_init := by decide +kernel
theorem mcl37_X9_init : Cond.classLink RX9 37 RX6 ∈ wsX9_init := by decide +kernel
theorem min6_X9_init : Cond.instantiable RX6 11 ∈ wsX9_init := by decide +kernel
theorem mit6_X9_init : Cond.initialized RX6 ∈ wsX9_init := by decide +kernel
theorem mimX6_init_X9_init : Cond.instanceMethod yX6_init ∈ wsX9_init := by decide +kernel
theorem ml39_X9_init : Cond.methodLink RX9 39 yX6_init ∈ wsX9_init := by decide +kernel
theorem mf42_X9_init : Cond.fieldLink RX9 42 "GasVoyages" "planner" "LGasVoyages$Planner;" ∈ wsX9_init := by decide +kernel
set_option maxRecDepth 20000 in
theorem iw7_X9_init : ∀ w ∈ u_ws RX7 TX7 6, w ∈ wsX9_init := by decide +kernel
theorem mcl46_X9_init : Cond.classLink RX9 46 RX7 ∈ wsX9_init := by decide +kernel
theorem min7_X9_init : Cond.instantiable RX7 6 ∈ wsX9_init := by decide +kernel
theorem mit7_X9_init : Cond.initialized RX7 ∈ wsX9_init := by decide +kernel
theorem mf48_X9_init : Cond.fieldLink RX9 48 "GasVoyages$Air" "real" "LGasVoyages$Winds;" ∈ wsX9_init := by decide +kernel
theorem mimX7_init_X9_init : Cond.instanceMethod yX7_init ∈ wsX9_init := by decide +kernel
theorem ml52_X9_init : Cond.methodLink RX9 52 yX7_init ∈ wsX9_init := by decide +kernel
theorem mf55_X9_init : Cond.fieldLink RX9 55 "GasVoyages" "wayCounter" "LGasVoyages$WayCounter;" ∈ wsX9_init := by decide +kernel
set_option maxRecDepth 20000 in
theorem iw2_X9_init : ∀ w ∈ u_ws RX2 TX2 6, w ∈ wsX9_init := by decide +kernel
theorem mcl59_X9_init : Cond.classLink RX9 59 RX2 ∈ wsX9_init := by decide +kernel
theorem min2_X9_init : Cond.instantiable RX2 6 ∈ wsX9_init := by decide +kernel
theorem mit2_X9_init : Cond.initialized RX2 ∈ wsX9_init := by decide +kernel
theorem mimX2_init_X9_init : Cond.instanceMethod yX2_init ∈ wsX9_init := by decide +kernel
theorem ml61_X9_init : Cond.methodLink RX9 61 yX2_init ∈ wsX9_init := by decide +kernel
theorem mf64_X9_init : Cond.fieldLink RX9 64 "GasVoyages" "chasers" "LGasVoyages$Chasers;" ∈ wsX9_init := by decide +kernel
set_option maxRecDepth 20000 in
theorem iw3_X9_init : ∀ w ∈ u_ws RX3 TX3 7, w ∈ wsX9_init := by decide +kernel
theorem min3_X9_init : Cond.instantiable RX3 7 ∈ wsX9_init := by decide +kernel
theorem mit3_X9_init : Cond.initialized RX3 ∈ wsX9_init := by decide +kernel
theorem mimX3_init_X9_init : Cond.instanceMethod yX3_init ∈ wsX9_init := by decide +kernel
abbrev wX9 (cy : Nat → ClassId) (h0 : Nat) (u : Nat → Nat) : va_W := [((u 0), .inl (cy 2, 8, .inr (.inr (.inr (.inr (va_up (va_up (va_up (va_up (va_up (va_up (va_up (va_up (fun _ => none) 0 (some (u 29))) 1 (some (u 25))) 2 (some (u 21))) 3 (some (u 17))) 4 (some (u 13))) 5 (some (u 9))) 6 (some (u 5))) 7 (some (u 1)))))))), (h0, .inr (9, [.ref (u 69), .ref (u 38), .ref (u 0), .ref (u 68), .int 0, .ref (u 57), .ref (u 48), .ref (u 33)]))] ++ (wX3 cy (u 1) (fun k => u (2 + k)) ++ (wX3 cy (u 5) (fun k => u (6 + k)) ++ (wX3 cy (u 9) (fun k => u (10 + k)) ++ (wX3 cy (u 13) (fun k => u (14 + k)) ++ (wX3 cy (u 17) (fun k => u (18 + k)) ++ (wX3 cy (u 21) (fun k => u (22 + k)) ++ (wX3 cy (u 25) (fun k => u (26 + k)) ++ (wX3 cy (u 29) (fun k => u (30 + k)) ++ (wX2 cy (u 33) (u 69) (fun k => u (34 + k)) ++ (wX0 cy (u 38) (fun k => u (39 + k)) ++ (wX7 cy (u 48) (u 69) (u 42) (fun k => u (49 + k)) ++ (wX6 cy (u 57) (u 69) (u 38) (fun k => u (58 + k)) ++ ([((u 68), .inl (cy 1, 8, .inl (fun _ => 0)))] ++ (wX5 cy (u 69) (fun k => u (70 + k)) ++ []))))))))))))))
set_option maxRecDepth 100000 in
set_option maxHeartbeats 16000000 in
theorem n_X9 (l : Launch) (D : va_G) (cy : Nat → ClassId) (h0 : Nat) (sz : Nat) : Kn l yX9_init wsX9_init 3 71 31406 D cy sz [(h0, .inr (9, [.null, .null, .null, .null, .int 0, .null, .null, .null]))] (wX9 cy h0) [.ref h0] := by
  refine r_nstart (by decide) rfl rfl [.ref h0] (Nat.le_of_ble_eq_true rfl) ?_
  intro p e s m below meth c A S hr hlocks hin hCn hA hP hD ls hl
  have hl : lv_has ls 2 [(0, .ref h0)] := hl
  obtain ⟨hx, hb, hml, hown, hts⟩ := id S
  have hS : va_S A s.heap s.heap [] := va_S.rf
  obtain ⟨T0, hT0⟩ : ∃ T : va_W, T = [] := ⟨_, rfl⟩
  have hP : va_P D vwCl (([(h0, .inr (9, [.null, .null, .null, .null, .int 0, .null, .null, .null]))]) ++ T0) s.heap := by rw [hT0]; exact hP
  have hD : va_D A (([(h0, .inr (9, [.null, .null, .null, .null, .int 0, .null, .null, .null]))]) ++ T0) := by rw [hT0]; exact hD
  refine lv_aload_n hx hb dX9_init_0 rfl (lv_at hl 0 rfl) ?_
  refine W.objInit hx hb hown (hts _ moi_X9_init) (hts _ mom_X9_init) (hts _ moc_X9_init) rfl (by rw [hml]; exact hl.1) rfl dX9_init_1 (Nat.le_of_ble_eq_true rfl) (Nat.le_of_ble_eq_true rfl) ?_
  refine W.eq (g2 := F0 m 4 ls []) rfl ?_
  refine lv_aload_n hx hb dX9_init_4 rfl (lv_at hl 0 rfl) ?_
  refine va_new (D := D) (ci := 5) (fs := [.int 0, .int 0, .null]) (C := RX5) (T := TX5) (N := 3) hx hb hts iw5_X9_init tyX5 tyX5_ok hown (hts _ mcl9_X9_init) (hts _ min5_X9_init) (hts _ mit5_X9_init) hCn.1 hP hD hS hA rfl df_X5 (Nat.le_of_ble_eq_true rfl) (Nat.le_of_ble_eq_true rfl) dX9_init_5 (fun q0 H hP hD hS => ?_)
  replace hP := hP.perm va_nw
  replace hD := hD.perm va_nw
  refine lv_dup hx hb dX9_init_8 rfl ?_
  refine r_ocall (E := ([(h0, .inr (9, [.null, .null, .null, .null, .int 0, .null, .null, .null]))])) (T := T0) (r_orunN (E := ([(h0, .inr (9, [.null, .null, .null, .null, .int 0, .null, .null, .null]))])) (T := T0) (As := []) (rest := [.ref q0, .ref h0]) S hCn (n_X5 l D cy q0 H.size) (va_cnB 0 hts gX9_init_X5_init_n11 rfl rfl rfl (hCn.2.1.1 (RX9, 11, yX5_init) (by decide +kernel)) (hts _ mit5_X9_init) (by decide +kernel) ⟨Nat.le_of_ble_eq_true rfl, Nat.le_of_ble_eq_true rfl⟩) rfl (hts _ mimX5_init_X9_init) hP rfl hl.1 rfl (Nat.le_of_ble_eq_true rfl) ⟨Nat.le_of_ble_eq_true rfl, Nat.le_of_ble_eq_true rfl⟩ dX9_init_9) hP hD hS hA (fun u1 H locs hP hD hS => ?_)
  have hP : va_P D vwCl (([(h0, .inr (9, [.null, .null, .null, .null, .int 0, .null, .null, .null]))]) ++ (wX5 cy q0 u1 ++ T0)) H := hP
  have hD : va_D A (([(h0, .inr (9, [.null, .null, .null, .null, .int 0, .null, .null, .null]))]) ++ (wX5 cy q0 u1 ++ T0)) := hD
  obtain ⟨T1, hT1⟩ : ∃ T, T = wX5 cy q0 u1 ++ T0 := ⟨_, rfl⟩
  rw [← hT1] at hP hD
  refine va_putF (D := D) (ci := 9) (v := .ref q0) (ty := .object "GasVoyages$Land") (C := RX9) (T := TX9) (N := 8) hx hb hts iw9_X9_init tyX9 tyX9_ok nmX9 hown hCn.1 hP hD hS 0 rfl rfl 0 (by decide) (hts _ mf12_X9_init) (fun _ h9 => h9) rfl hin rfl (by decide +kernel) rfl rfl (Nat.le_of_ble_eq_true rfl) dX9_init_12 (fun H locs hP hD hS => ?_)
  have hP : va_P D vwCl (([(h0, .inr (9, [.ref q0, .null, .null, .null, .int 0, .null, .null, .null]))]) ++ T1) H := hP
  have hD : va_D A (([(h0, .inr (9, [.ref q0, .null, .null, .null, .int 0, .null, .null, .null]))]) ++ T1) := hD
  refine lv_aload_n hx hb dX9_init_15 rfl (lv_at hl 0 rfl) ?_
  refine va_new (D := D) (ci := 0) (fs := [.null, .null, .null, .null, .null]) (C := RX0) (T := TX0) (N := 5) hx hb hts iw0_X9_init tyX0 tyX0_ok hown (hts _ mcl16_X9_init) (hts _ min0_X9_init) (hts _ mit0_X9_init) hCn.1 hP hD hS hA rfl df_X0 (Nat.le_of_ble_eq_true rfl) (Nat.le_of_ble_eq_true rfl) dX9_init_16 (fun q2 H hP hD hS => ?_)
  replace hP := hP.perm va_nw
  replace hD := hD.perm va_nw
  refine lv_dup hx hb dX9_init_19 rfl ?_
  refine r_ocall (E := ([(h0, .inr (9, [.ref q0, .null, .null, .null, .int 0, .null, .null, .null]))])) (T := T1) (r_orunI (E := ([(h0, .inr (9, [.ref q0, .null, .null, .null, .int 0, .null, .null, .null]))])) (T := T1) (As := []) (rest := [.ref q2, .ref h0]) S hCn (n_X0 l D cy q2 H.size) (cwI 0 hts gX9_init_X0_init rfl rfl rfl (hts _ mit0_X9_init) (hts _ ml18_X9_init) (hts _ mimX0_init_X9_init) rfl (by decide +kernel) ⟨Nat.le_of_ble_eq_true rfl, Nat.le_of_ble_eq_true rfl⟩) hP rfl hl.1 rfl (Nat.le_of_ble_eq_true rfl) ⟨Nat.le_of_ble_eq_true rfl, Nat.le_of_ble_eq_true rfl⟩ dX9_init_20) hP hD hS hA (fun u3 H locs hP hD hS => ?_)
  rw [← List.append_assoc] at hP hD
  have hP : va_P D vwCl (([(h0, .inr (9, [.ref q0, .null, .null, .null, .int 0, .null, .null, .null]))] ++ wX0 cy q2 u3) ++ T1) H := hP
  have hD : va_D A (([(h0, .inr (9, [.ref q0, .null, .null, .null, .int 0, .null, .null, .null]))] ++ wX0 cy q2 u3) ++ T1) := hD
  refine va_putF (D := D) (ci := 9) (v := .ref q2) (ty := .object "GasVoyages$Air") (C := RX9) (T := TX9) (N := 8) hx hb hts iw9_X9_init tyX9 tyX9_ok nmX9 hown hCn.1 hP hD hS 0 rfl rfl 1 (by decide) (hts _ mf19_X9_init) (fun _ h9 => h9) rfl hin rfl (by decide +kernel) rfl rfl (Nat.le_of_ble_eq_true rfl) dX9_init_23 (fun H locs hP hD hS => ?_)
  have hP : va_P D vwCl (([(h0, .inr (9, [.ref q0, .ref q2, .null, .null, .int 0, .null, .null, .null]))] ++ wX0 cy q2 u3) ++ T1) H := hP
  have hD : va_D A (([(h0, .inr (9, [.ref q0, .ref q2, .null, .null, .int 0, .null, .null, .null]))] ++ wX0 cy q2 u3) ++ T1) := hD
  refine lv_aload_n hx hb dX9_init_26 rfl (lv_at hl 0 rfl) ?_
  refine lv_bipush (v := 8) hx hb dX9_init_27 (by decide) ?_
  refine r_newF hx hb hown (hts _ mcl23_X9_init) hCn hP hD hS hA (N' := 8) (by decide) (by decide) (Nat.le_of_ble_eq_true rfl) (Nat.le_of_ble_eq_true rfl) (Nat.le_of_ble_eq_true rfl) dX9_init_29 (fun q4 H hP hD hS => ?_)
  replace hP := hP.perm va_nw
  replace hD := hD.perm va_nw
  have hP : va_P D vwCl (([(q4, .inl (cy 2, 8, .inr (.inr (.inr (.inr (fun _ => none)))))), (h0, .inr (9, [.ref q0, .ref q2, .null, .null, .int 0, .null, .null, .null]))] ++ wX0 cy q2 u3) ++ T1) H := hP
  have hD : va_D A (([(q4, .inl (cy 2, 8, .inr (.inr (.inr (.inr (fun _ => none)))))), (h0, .inr (9, [.ref q0, .ref q2, .null, .null, .int 0, .null, .null, .null]))] ++ wX0 cy q2 u3) ++ T1) := hD
  refine va_putF (D := D) (ci := 9) (v := .ref q4) (ty := .array (.object "GasVoyages$Flight")) (C := RX9) (T := TX9) (N := 8) hx hb hts iw9_X9_init tyX9 tyX9_ok nmX9 hown hCn.1 hP hD hS 1 rfl rfl 2 (by decide) (hts _ mf25_X9_init) (fun _ h9 => h9) rfl hin rfl (by decide +kernel) rfl rfl (Nat.le_of_ble_eq_true rfl) dX9_init_32 (fun H locs hP hD hS => ?_)
  have hP : va_P D vwCl (([(q4, .inl (cy 2, 8, .inr (.inr (.inr (.inr (fun _ => none)))))), (h0, .inr (9, [.ref q0, .ref q2, .ref q4, .null, .int 0, .null, .null, .null]))] ++ wX0 cy q2 u3) ++ T1) H := hP
  have hD : va_D A (([(q4, .inl (cy 2, 8, .inr (.inr (.inr (.inr (fun _ => none)))))), (h0, .inr (9, [.ref q0, .ref q2, .ref q4, .null, .int 0, .null, .null, .null]))] ++ wX0 cy q2 u3) ++ T1) := hD
  refine lv_aload_n hx hb dX9_init_35 rfl (lv_at hl 0 rfl) ?_
  refine lv_bipush (v := 8) hx hb dX9_init_36 (by decide) ?_
  refine r_newz (T := []) hx hb (hts _ macz_X9_init) hCn hP hD hS hA (N' := 8) (by decide) (by decide) (Nat.le_of_ble_eq_true rfl) (Nat.le_of_ble_eq_true rfl) (Nat.le_of_ble_eq_true rfl) dX9_init_38 (fun q5 H hP hD hS => ?_)
  replace hP := hP.perm va_mv
  replace hD := hD.perm va_mv
  have hP : va_P D vwCl (([(q4, .inl (cy 2, 8, .inr (.inr (.inr (.inr (fun _ => none)))))), (h0, .inr (9, [.ref q0, .ref q2, .ref q4, .null, .int 0, .null, .null, .null]))] ++ wX0 cy q2 u3) ++ ([(q5, .inl (cy 1, 8, .inl (fun _ => 0)))] ++ T1)) H := hP
  have hD : va_D A (([(q4, .inl (cy 2, 8, .inr (.inr (.inr (.inr (fun _ => none)))))), (h0, .inr (9, [.ref q0, .ref q2, .ref q4, .null, .int 0, .null, .null, .null]))] ++ wX0 cy q2 u3) ++ ([(q5, .inl (cy 1, 8, .inl (fun _ => 0)))] ++ T1)) := hD
  obtain ⟨T2, hT2⟩ : ∃ T, T = [(q5, .inl (cy 1, 8, .inl (fun _ => 0)))] ++ T1 := ⟨_, rfl⟩
  rw [← hT2] at hP hD
  refine va_putF (D := D) (ci := 9) (v := .ref q5) (ty := .array .boolean) (C := RX9) (T := TX9) (N := 8) hx hb hts iw9_X9_init tyX9 tyX9_ok nmX9 hown hCn.1 hP hD hS 1 rfl rfl 3 (by decide) (hts _ mf29_X9_init) (fun _ h9 => h9) rfl hin rfl (by decide +kernel) rfl rfl (Nat.le_of_ble_eq_true rfl) dX9_init_40 (fun H locs hP hD hS => ?_)
  have hP : va_P D vwCl (([(q4, .inl (cy 2, 8, .inr (.inr (.inr (.inr (fun _ => none)))))), (h0, .inr (9, [.ref q0, .ref q2, .ref q4, .ref q5, .int 0, .null, .null, .null]))] ++ wX0 cy q2 u3) ++ T2) H := hP
  have hD : va_D A (([(q4, .inl (cy 2, 8, .inr (.inr (.inr (.inr (fun _ => none)))))), (h0, .inr (9, [.ref q0, .ref q2, .ref q4, .ref q5, .int 0, .null, .null, .null]))] ++ wX0 cy q2 u3) ++ T2) := hD
  refine lv_aload_n hx hb dX9_init_43 rfl (lv_at hl 0 rfl) ?_
  refine lv_iconst (v := 0) hx hb dX9_init_44 (by decide) ?_
  refine va_put (D := D) (ci := 9) (v := .int 0) (ty := .int) (C := RX9) (T := TX9) (N := 8) hx hb hts iw9_X9_init tyX9 tyX9_ok nmX9 hown hCn.1 hP hD hS 1 rfl rfl 4 (by decide) (hts _ mf33_X9_init) (fun _ h9 => h9) rfl (by decide +kernel) rfl rfl (Nat.le_of_ble_eq_true rfl) dX9_init_45 (fun H locs hP hD hS => ?_)
  have hP : va_P D vwCl (([(q4, .inl (cy 2, 8, .inr (.inr (.inr (.inr (fun _ => none)))))), (h0, .inr (9, [.ref q0, .ref q2, .ref q4, .ref q5, .int 0, .null, .null, .null]))] ++ wX0 cy q2 u3) ++ T2) H := hP
  have hD : va_D A (([(q4, .inl (cy 2, 8, .inr (.inr (.inr (.inr (fun _ => none)))))), (h0, .inr (9, [.ref q0, .ref q2, .ref q4, .ref q5, .int 0, .null, .null, .null]))] ++ wX0 cy q2 u3) ++ T2) := hD
  refine lv_aload_n hx hb dX9_init_48 rfl (lv_at hl 0 rfl) ?_
  refine va_new (D := D) (ci := 6) (fs := [.null, .null, .null, .null, .null, .int 0, .int 0, .int 0, .int 0, .int 0, .int 0]) (C := RX6) (T := TX6) (N := 11) hx hb hts iw6_X9_init tyX6 tyX6_ok hown (hts _ mcl37_X9_init) (hts _ min6_X9_init) (hts _ mit6_X9_init) hCn.1 hP hD hS hA rfl df_X6 (Nat.le_of_ble_eq_true rfl) (Nat.le_of_ble_eq_true rfl) dX9_init_49 (fun q6 H hP hD hS => ?_)
  replace hP := hP.perm va_nw
  replace hD := hD.perm va_nw
  refine lv_dup hx hb dX9_init_52 rfl ?_
  refine lv_aload_n hx hb dX9_init_53 rfl (lv_at hl 0 rfl) ?_
  refine va_get (D := D) (ci := 9) (v := .ref q0) (C := RX9) (T := TX9) (N := 8) hx hb hts iw9_X9_init hown hCn.1 hP 2 rfl rfl 0 (by decide) (hts _ mf12_X9_init) (fun _ h9 => h9) rfl dX9_init_54 ?_
  refine lv_aload_n hx hb dX9_init_57 rfl (lv_at hl 0 rfl) ?_
  refine va_get (D := D) (ci := 9) (v := .ref q2) (C := RX9) (T := TX9) (N := 8) hx hb hts iw9_X9_init hown hCn.1 hP 2 rfl rfl 1 (by decide) (hts _ mf19_X9_init) (fun _ h9 => h9) rfl dX9_init_58 ?_
  refine r_ocall (E := ([(q4, .inl (cy 2, 8, .inr (.inr (.inr (.inr (fun _ => none)))))), (h0, .inr (9, [.ref q0, .ref q2, .ref q4, .ref q5, .int 0, .null, .null, .null]))] ++ wX0 cy q2 u3)) (T := T2) (r_orunI (E := ([(q4, .inl (cy 2, 8, .inr (.inr (.inr (.inr (fun _ => none)))))), (h0, .inr (9, [.ref q0, .ref q2, .ref q4, .ref q5, .int 0, .null, .null, .null]))] ++ wX0 cy q2 u3)) (T := T2) (As := [.ref q0, .ref q2]) (rest := [.ref q6, .ref h0]) S hCn (n_X6 l D cy q6 q0 q2 H.size) (cwI 2 hts gX9_init_X6_init rfl rfl rfl (hts _ mit6_X9_init) (hts _ ml39_X9_init) (hts _ mimX6_init_X9_init) rfl (by decide +kernel) ⟨Nat.le_of_ble_eq_true rfl, Nat.le_of_ble_eq_true rfl⟩) hP rfl hl.1 rfl (Nat.le_of_ble_eq_true rfl) ⟨Nat.le_of_ble_eq_true rfl, Nat.le_of_ble_eq_true rfl⟩ dX9_init_61) hP hD hS hA (fun u7 H locs hP hD hS => ?_)
  have hP : va_P D vwCl (([(q4, .inl (cy 2, 8, .inr (.inr (.inr (.inr (fun _ => none)))))), (h0, .inr (9, [.ref q0, .ref q2, .ref q4, .ref q5, .int 0, .null, .null, .null]))] ++ wX0 cy q2 u3) ++ (wX6 cy q6 q0 q2 u7 ++ T2)) H := hP
  have hD : va_D A (([(q4, .inl (cy 2, 8, .inr (.inr (.inr (.inr (fun _ => none)))))), (h0, .inr (9, [.ref q0, .ref q2, .ref q4, .ref q5, .int 0, .null, .null, .null]))] ++ wX0 cy q2 u3) ++ (wX6 cy q6 q0 q2 u7 ++ T2)) := hD
  obtain ⟨T3, hT3⟩ : ∃ T, T = wX6 cy q6 q0 q2 u7 ++ T2 := ⟨_, rfl⟩
  rw [← hT3] at hP hD
  refine va_putF (D := D) (ci := 9) (v := .ref q6) (ty := .object "GasVoyages$Planner") (C := RX9) (T := TX9) (N := 8) hx hb hts iw9_X9_init tyX9 tyX9_ok nmX9 hown hCn.1 hP hD hS 1 rfl rfl 5 (by decide) (hts _ mf42_X9_init) (fun _ h9 => h9) rfl hin rfl (by decide +kernel) rfl rfl (Nat.le_of_ble_eq_true rfl) dX9_init_64 (fun H locs hP hD hS => ?_)
  have hP : va_P D vwCl (([(q4, .inl (cy 2, 8, .inr (.inr (.inr (.inr (fun _ => none)))))), (h0, .inr (9, [.ref q0, .ref q2, .ref q4, .ref q5, .int 0, .ref q6, .null, .null]))] ++ wX0 cy q2 u3) ++ T3) H := hP
  have hD : va_D A (([(q4, .inl (cy 2, 8, .inr (.inr (.inr (.inr (fun _ => none)))))), (h0, .inr (9, [.ref q0, .ref q2, .ref q4, .ref q5, .int 0, .ref q6, .null, .null]))] ++ wX0 cy q2 u3) ++ T3) := hD
  refine lv_aload_n hx hb dX9_init_67 rfl (lv_at hl 0 rfl) ?_
  refine va_new (D := D) (ci := 7) (fs := [.null, .null, .null, .null, .int 0, .int 0]) (C := RX7) (T := TX7) (N := 6) hx hb hts iw7_X9_init tyX7 tyX7_ok hown (hts _ mcl46_X9_init) (hts _ min7_X9_init) (hts _ mit7_X9_init) hCn.1 hP hD hS hA rfl df_X7 (Nat.le_of_ble_eq_true rfl) (Nat.le_of_ble_eq_true rfl) dX9_init_68 (fun q8 H hP hD hS => ?_)
  replace hP := hP.perm va_nw
  replace hD := hD.perm va_nw
  refine lv_dup hx hb dX9_init_71 rfl ?_
  refine lv_aload_n hx hb dX9_init_72 rfl (lv_at hl 0 rfl) ?_
  refine va_get (D := D) (ci := 9) (v := .ref q0) (C := RX9) (T := TX9) (N := 8) hx hb hts iw9_X9_init hown hCn.1 hP 2 rfl rfl 0 (by decide) (hts _ mf12_X9_init) (fun _ h9 => h9) rfl dX9_init_73 ?_
  refine lv_aload_n hx hb dX9_init_76 rfl (lv_at hl 0 rfl) ?_
  refine va_get (D := D) (ci := 9) (v := .ref q2) (C := RX9) (T := TX9) (N := 8) hx hb hts iw9_X9_init hown hCn.1 hP 2 rfl rfl 1 (by decide) (hts _ mf19_X9_init) (fun _ h9 => h9) rfl dX9_init_77 ?_
  refine va_get (D := D) (ci := 0) (v := .ref (u3 3)) (C := RX0) (T := TX0) (N := 5) hx hb hts iw0_X9_init hown hCn.1 hP 3 rfl rfl 3 (by decide) (hts _ mf48_X9_init) (fun _ h9 => h9) rfl dX9_init_80 ?_
  refine r_ocall (E := ([(q4, .inl (cy 2, 8, .inr (.inr (.inr (.inr (fun _ => none)))))), (h0, .inr (9, [.ref q0, .ref q2, .ref q4, .ref q5, .int 0, .ref q6, .null, .null]))] ++ wX0 cy q2 u3)) (T := T3) (r_orunI (E := ([(q4, .inl (cy 2, 8, .inr (.inr (.inr (.inr (fun _ => none)))))), (h0, .inr (9, [.ref q0, .ref q2, .ref q4, .ref q5, .int 0, .ref q6, .null, .null]))] ++ wX0 cy q2 u3)) (T := T3) (As := [.ref q0, .ref (u3 3)]) (rest := [.ref q8, .ref h0]) S hCn (n_X7 l D cy q8 q0 (u3 3) H.size) (cwI 2 hts gX9_init_X7_init rfl rfl rfl (hts _ mit7_X9_init) (hts _ ml52_X9_init) (hts _ mimX7_init_X9_init) rfl (by decide +kernel) ⟨Nat.le_of_ble_eq_true rfl, Nat.le_of_ble_eq_true rfl⟩) hP rfl hl.1 rfl (Nat.le_of_ble_eq_true rfl) ⟨Nat.le_of_ble_eq_true rfl, Nat.le_of_ble_eq_true rfl⟩ dX9_init_83) hP hD hS hA (fun u9 H locs hP hD hS => ?_)
  have hP : va_P D vwCl (([(q4, .inl (cy 2, 8, .inr (.inr (.inr (.inr (fun _ => none)))))), (h0, .inr (9, [.ref q0, .ref q2, .ref q4, .ref q5, .int 0, .ref q6, .null, .null]))] ++ wX0 cy q2 u3) ++ (wX7 cy q8 q0 (u3 3) u9 ++ T3)) H := hP
  have hD : va_D A (([(q4, .inl (cy 2, 8, .inr (.inr (.inr (.inr (fun _ => none)))))), (h0, .inr (9, [.ref q0, .ref q2, .ref q4, .ref q5, .int 0, .ref q6, .null, .null]))] ++ wX0 cy q2 u3) ++ (wX7 cy q8 q0 (u3 3) u9 ++ T3)) := hD
  obtain ⟨T4, hT4⟩ : ∃ T, T = wX7 cy q8 q0 (u3 3) u9 ++ T3 := ⟨_, rfl⟩
  rw [← hT4] at hP hD
  rw [List.append_assoc] at hP hD
  have hP : va_P D vwCl (([(q4, .inl (cy 2, 8, .inr (.inr (.inr (.inr (fun _ => none)))))), (h0, .inr (9, [.ref q0, .ref q2, .ref q4, .ref q5, .int 0, .ref q6, .null, .null]))]) ++ (wX0 cy q2 u3 ++ T4)) H := hP
  have hD : va_D A (([(q4, .inl (cy 2, 8, .inr (.inr (.inr (.inr (fun _ => none)))))), (h0, .inr (9, [.ref q0, .ref q2, .ref q4, .ref q5, .int 0, .ref q6, .null, .null]))]) ++ (wX0 cy q2 u3 ++ T4)) := hD
  obtain ⟨T5, hT5⟩ : ∃ T, T = wX0 cy q2 u3 ++ T4 := ⟨_, rfl⟩
  rw [← hT5] at hP hD
  refine va_putF (D := D) (ci := 9) (v := .ref q8) (ty := .object "GasVoyages$WayCounter") (C := RX9) (T := TX9) (N := 8) hx hb hts iw9_X9_init tyX9 tyX9_ok nmX9 hown hCn.1 hP hD hS 1 rfl rfl 6 (by decide) (hts _ mf55_X9_init) (fun _ h9 => h9) rfl hin rfl (by decide +kernel) rfl rfl (Nat.le_of_ble_eq_true rfl) dX9_init_86 (fun H locs hP hD hS => ?_)
  have hP : va_P D vwCl (([(q4, .inl (cy 2, 8, .inr (.inr (.inr (.inr (fun _ => none)))))), (h0, .inr (9, [.ref q0, .ref q2, .ref q4, .ref q5, .int 0, .ref q6, .ref q8, .null]))]) ++ T5) H := hP
  have hD : va_D A (([(q4, .inl (cy 2, 8, .inr (.inr (.inr (.inr (fun _ => none)))))), (h0, .inr (9, [.ref q0, .ref q2, .ref q4, .ref q5, .int 0, .ref q6, .ref q8, .null]))]) ++ T5) := hD
  refine lv_aload_n hx hb dX9_init_89 rfl (lv_at hl 0 rfl) ?_
  refine va_new (D := D) (ci := 2) (fs := [.null, .null, .null, .int 0, .null, .null]) (C := RX2) (T := TX2) (N := 6) hx hb hts iw2_X9_init tyX2 tyX2_ok hown (hts _ mcl59_X9_init) (hts _ min2_X9_init) (hts _ mit2_X9_init) hCn.1 hP hD hS hA rfl df_X2 (Nat.le_of_ble_eq_true rfl) (Nat.le_of_ble_eq_true rfl) dX9_init_90 (fun q10 H hP hD hS => ?_)
  replace hP := hP.perm va_nw
  replace hD := hD.perm va_nw
  refine lv_dup hx hb dX9_init_93 rfl ?_
  refine lv_aload_n hx hb dX9_init_94 rfl (lv_at hl 0 rfl) ?_
  refine va_get (D := D) (ci := 9) (v := .ref q0) (C := RX9) (T := TX9) (N := 8) hx hb hts iw9_X9_init hown hCn.1 hP 2 rfl rfl 0 (by decide) (hts _ mf12_X9_init) (fun _ h9 => h9) rfl dX9_init_95 ?_
  refine r_ocall (E := ([(q4, .inl (cy 2, 8, .inr (.inr (.inr (.inr (fun _ => none)))))), (h0, .inr (9, [.ref q0, .ref q2, .ref q4, .ref q5, .int 0, .ref q6, .ref q8, .null]))])) (T := T5) (r_orunI (E := ([(q4, .inl (cy 2, 8, .inr (.inr (.inr (.inr (fun _ => none)))))), (h0, .inr (9, [.ref q0, .ref q2, .ref q4, .ref q5, .int 0, .ref q6, .ref q8, .null]))])) (T := T5) (As := [.ref q0]) (rest := [.ref q10, .ref h0]) S hCn (n_X2 l D cy q10 q0 H.size) (cwI 1 hts gX9_init_X2_init rfl rfl rfl (hts _ mit2_X9_init) (hts _ ml61_X9_init) (hts _ mimX2_init_X9_init) rfl (by decide +kernel) ⟨Nat.le_of_ble_eq_true rfl, Nat.le_of_ble_eq_true rfl⟩) hP rfl hl.1 rfl (Nat.le_of_ble_eq_true rfl) ⟨Nat.le_of_ble_eq_true rfl, Nat.le_of_ble_eq_true rfl⟩ dX9_init_98) hP hD hS hA (fun u11 H locs hP hD hS => ?_)
  have hP : va_P D vwCl (([(q4, .inl (cy 2, 8, .inr (.inr (.inr (.inr (fun _ => none)))))), (h0, .inr (9, [.ref q0, .ref q2, .ref q4, .ref q5, .int 0, .ref q6, .ref q8, .null]))]) ++ (wX2 cy q10 q0 u11 ++ T5)) H := hP
  have hD : va_D A (([(q4, .inl (cy 2, 8, .inr (.inr (.inr (.inr (fun _ => none)))))), (h0, .inr (9, [.ref q0, .ref q2, .ref q4, .ref q5, .int 0, .ref q6, .ref q8, .null]))]) ++ (wX2 cy q10 q0 u11 ++ T5)) := hD
  obtain ⟨T6, hT6⟩ : ∃ T, T = wX2 cy q10 q0 u11 ++ T5 := ⟨_, rfl⟩
  rw [← hT6] at hP hD
  refine va_putF (D := D) (ci := 9) (v := .ref q10) (ty := .object "GasVoyages$Chasers") (C := RX9) (T := TX9) (N := 8) hx hb hts iw9_X9_init tyX9 tyX9_ok nmX9 hown hCn.1 hP hD hS 1 rfl rfl 7 (by decide) (hts _ mf64_X9_init) (fun _ h9 => h9) rfl hin rfl (by decide +kernel) rfl rfl (Nat.le_of_ble_eq_true rfl) dX9_init_101 (fun H locs hP hD hS => ?_)
  have hP : va_P D vwCl (([(q4, .inl (cy 2, 8, .inr (.inr (.inr (.inr (fun _ => none)))))), (h0, .inr (9, [.ref q0, .ref q2, .ref q4, .ref q5, .int 0, .ref q6, .ref q8, .ref q10]))]) ++ T6) H := hP
  have hD : va_D A (([(q4, .inl (cy 2, 8, .inr (.inr (.inr (.inr (fun _ => none)))))), (h0, .inr (9, [.ref q0, .ref q2, .ref q4, .ref q5, .int 0, .ref q6, .ref q8, .ref q10]))]) ++ T6) := hD
  refine lv_iconst (v := 0) hx hb dX9_init_104 (by decide) ?_
  refine lv_istore_n (lv' := [(1, .int 0), (0, .ref h0)]) hx hb dX9_init_105 rfl hl (by decide) rfl (fun ls hl => ?_)
  refine lv_iload_n hx hb dX9_init_106 rfl (lv_at hl 0 rfl) ?_
  refine lv_bipush (v := 8) hx hb dX9_init_107 (by decide) ?_
  refine lv_icmp_ge (tgt := 131) hx hb dX9_init_109 (by decide) (fun c1 => absurd c1 (by decide)) (fun _ => ?_)
  refine lv_aload_n hx hb dX9_init_112 rfl (lv_at hl 1 rfl) ?_
  refine va_get (D := D) (ci := 9) (v := .ref q4) (C := RX9) (T := TX9) (N := 8) hx hb hts iw9_X9_init hown hCn.1 hP 1 rfl rfl 2 (by decide) (hts _ mf25_X9_init) (fun _ h9 => h9) rfl dX9_init_113 ?_
  refine lv_iload_n hx hb dX9_init_116 rfl (lv_at hl 0 rfl) ?_
  refine va_new (D := D) (ci := 3) (fs := [.null, .null, .null, .int 0, .int 0, .int 0, .int 0]) (C := RX3) (T := TX3) (N := 7) hx hb hts iw3_X9_init tyX3 tyX3_ok hown (hts _ mcl23_X9_init) (hts _ min3_X9_init) (hts _ mit3_X9_init) hCn.1 hP hD hS hA rfl df_X3 (Nat.le_of_ble_eq_true rfl) (Nat.le_of_ble_eq_true rfl) dX9_init_117 (fun q12 H hP hD hS => ?_)
  replace hP := hP.perm va_nw
  replace hD := hD.perm va_nw
  refine lv_dup hx hb dX9_init_120 rfl ?_
  refine r_ocall (E := ([(q4, .inl (cy 2, 8, .inr (.inr (.inr (.inr (fun _ => none)))))), (h0, .inr (9, [.ref q0, .ref q2, .ref q4, .ref q5, .int 0, .ref q6, .ref q8, .ref q10]))])) (T := T6) (r_orunN (E := ([(q4, .inl (cy 2, 8, .inr (.inr (.inr (.inr (fun _ => none)))))), (h0, .inr (9, [.ref q0, .ref q2, .ref q4, .ref q5, .int 0, .ref q6, .ref q8, .ref q10]))])) (T := T6) (As := []) (rest := [.ref q12, .int 0, .ref q4]) S hCn (n_X3 l D cy q12 H.size) (va_cnB 0 hts gX9_init_X3_init_n68 rfl rfl rfl (hCn.2.1.1 (RX9, 68, yX3_init) (by decide +kernel)) (hts _ mit3_X9_init) (by decide +kernel) ⟨Nat.le_of_ble_eq_true rfl, Nat.le_of_ble_eq_true rfl⟩) rfl (hts _ mimX3_init_X9_init) hP rfl hl.1 rfl (Nat.le_of_ble_eq_true rfl) ⟨Nat.le_of_ble_eq_true rfl, Nat.le_of_ble_eq_true rfl⟩ dX9_init_121) hP hD hS hA (fun u13 H locs hP hD hS => ?_)
  rw [← List.append_assoc] at hP hD
  have hP : va_P D vwCl (([(q4, .inl (cy 2, 8, .inr (.inr (.inr (.inr (fun _ => none)))))), (h0, .inr (9, [.ref q0, .ref q2, .ref q4, .ref q5, .int 0, .ref q6, .ref q8, .ref q10]))] ++ wX3 cy q12 u13) ++ T6) H := hP
  have hD : va_D A (([(q4, .inl (cy 2, 8, .inr (.inr (.inr (.inr (fun _ => none)))))), (h0, .inr (9, [.ref q0, .ref q2, .ref q4, .ref q5, .int 0, .ref q6, .ref q8, .ref q10]))] ++ wX3 cy q12 u13) ++ T6) := hD
  refine va_astq (r := (RX3, TX3, 7)) hx hb hCn.1 hP hD hS 0 2 2 3 rfl rfl rfl rfl (vp_in_nI (n := 0) (N := 8) (by decide) (by decide)) dX9_init_124 (fun H locs hP hD hS => ?_)
  have hP : va_P D vwCl (([(q4, .inl (cy 2, 8, .inr (.inr (.inr (.inr (va_up (fun _ => none) 0 (some q12))))))), (h0, .inr (9, [.ref q0, .ref q2, .ref q4, .ref q5, .int 0, .ref q6, .ref q8, .ref q10]))] ++ wX3 cy q12 u13) ++ T6) H := hP
  have hD : va_D A (([(q4, .inl (cy 2, 8, .inr (.inr (.inr (.inr (va_up (fun _ => none) 0 (some q12))))))), (h0, .inr (9, [.ref q0, .ref q2, .ref q4, .ref q5, .int 0, .ref q6, .ref q8, .ref q10]))] ++ wX3 cy q12 u13) ++ T6) := hD
  rw [List.append_assoc] at hP hD
  have hP : va_P D vwCl (([(q4, .inl (cy 2, 8, .inr (.inr (.inr (.inr (va_up (fun _ => none) 0 (some q12))))))), (h0, .inr (9, [.ref q0, .ref q2, .ref q4, .ref q5, .int 0, .ref q6, .ref q8, .ref q10]))]) ++ (wX3 cy q12 u13 ++ T6)) H := hP
  have hD : va_D A (([(q4, .inl (cy 2, 8, .inr (.inr (.inr (.inr (va_up (fun _ => none) 0 (some q12))))))), (h0, .inr (9, [.ref q0, .ref q2, .ref q4, .ref q5, .int 0, .ref q6, .ref q8, .ref q10]))]) ++ (wX3 cy q12 u13 ++ T6)) := hD
  obtain ⟨T7, hT7⟩ : ∃ T, T = wX3 cy q12 u13 ++ T6 := ⟨_, rfl⟩
  rw [← hT7] at hP hD
  refine lv_iinc (v := 1) (lv' := [(1, .int 1), (0, .ref h0)]) hx hb dX9_init_125 hl (k := 0) rfl rfl (by decide) rfl (fun ls hl => ?_)
  refine lv_goto (tgt := 106) hx hb dX9_init_128 (by decide) ?_
  refine lv_iload_n hx hb dX9_init_106 rfl (lv_at hl 0 rfl) ?_
  refine lv_bipush (v := 8) hx hb dX9_init_107 (by decide) ?_
  refine lv_icmp_ge (tgt := 131) hx hb dX9_init_109 (by decide) (fun c1 => absurd c1 (by decide)) (fun _ => ?_)
  refine lv_aload_n hx hb dX9_init_112 rfl (lv_at hl 1 rfl) ?_
  refine va_get (D := D) (ci := 9) (v := .ref q4) (C := RX9) (T := TX9) (N := 8) hx hb hts iw9_X9_init hown hCn.1 hP 1 rfl rfl 2 (by decide) (hts _ mf25_X9_init) (fun _ h9 => h9) rfl dX9_init_113 ?_
  refine lv_iload_n hx hb dX9_init_116 rfl (lv_at hl 0 rfl) ?_
  refine va_new (D := D) (ci := 3) (fs := [.null, .null, .null, .int 0, .int 0, .int 0, .int 0]) (C := RX3) (T := TX3) (N := 7) hx hb hts iw3_X9_init tyX3 tyX3_ok hown (hts _ mcl23_X9_init) (hts _ min3_X9_init) (hts _ mit3_X9_init) hCn.1 hP hD hS hA rfl df_X3 (Nat.le_of_ble_eq_true rfl) (Nat.le_of_ble_eq_true rfl) dX9_init_117 (fun q14 H hP hD hS => ?_)
  replace hP := hP.perm va_nw
  replace hD := hD.perm va_nw
  refine lv_dup hx hb dX9_init_120 rfl ?_
  refine r_ocall (E := ([(q4, .inl (cy 2, 8, .inr (.inr (.inr (.inr (va_up (fun _ => none) 0 (some q12))))))), (h0, .inr (9, [.ref q0, .ref q2, .ref q4, .ref q5, .int 0, .ref q6, .ref q8, .ref q10]))])) (T := T7) (r_orunN (E := ([(q4, .inl (cy 2, 8, .inr (.inr (.inr (.inr (va_up (fun _ => none) 0 (some q12))))))), (h0, .inr (9, [.ref q0, .ref q2, .ref q4, .ref q5, .int 0, .ref q6, .ref q8, .ref q10]))])) (T := T7) (As := []) (rest := [.ref q14, .int 1, .ref q4]) S hCn (n_X3 l D cy q14 H.size) (va_cnB 0 hts gX9_init_X3_init_n68 rfl rfl rfl (hCn.2.1.1 (RX9, 68, yX3_init) (by decide +kernel)) (hts _ mit3_X9_init) (by decide +kernel) ⟨Nat.le_of_ble_eq_true rfl, Nat.le_of_ble_eq_true rfl⟩) rfl (hts _ mimX3_init_X9_init) hP rfl hl.1 rfl (Nat.le_of_ble_eq_true rfl) ⟨Nat.le_of_ble_eq_true rfl, Nat.le_of_ble_eq_true rfl⟩ dX9_init_121) hP hD hS hA (fun u15 H locs hP hD hS => ?_)
  rw [← List.append_assoc] at hP hD
  have hP : va_P D vwCl (([(q4, .inl (cy 2, 8, .inr (.inr (.inr (.inr (va_up (fun _ => none) 0 (some q12))))))), (h0, .inr (9, [.ref q0, .ref q2, .ref q4, .ref q5, .int 0, .ref q6, .ref q8, .ref q10]))] ++ wX3 cy q14 u15) ++ T7) H := hP
  have hD : va_D A (([(q4, .inl (cy 2, 8, .inr (.inr (.inr (.inr (va_up (fun _ => none) 0 (some q12))))))), (h0, .inr (9, [.ref q0, .ref q2, .ref q4, .ref q5, .int 0, .ref q6, .ref q8, .ref q10]))] ++ wX3 cy q14 u15) ++ T7) := hD
  refine va_astq (r := (RX3, TX3, 7)) hx hb hCn.1 hP hD hS 0 2 2 3 rfl rfl rfl rfl (vp_in_nI (n := 1) (N := 8) (by decide) (by decide)) dX9_init_124 (fun H locs hP hD hS => ?_)
  have hP : va_P D vwCl (([(q4, .inl (cy 2, 8, .inr (.inr (.inr (.inr (va_up (va_up (fun _ => none) 0 (some q12)) 1 (some q14))))))), (h0, .inr (9, [.ref q0, .ref q2, .ref q4, .ref q5, .int 0, .ref q6, .ref q8, .ref q10]))] ++ wX3 cy q14 u15) ++ T7) H := hP
  have hD : va_D A (([(q4, .inl (cy 2, 8, .inr (.inr (.inr (.inr (va_up (va_up (fun _ => none) 0 (some q12)) 1 (some q14))))))), (h0, .inr (9, [.ref q0, .ref q2, .ref q4, .ref q5, .int 0, .ref q6, .ref q8, .ref q10]))] ++ wX3 cy q14 u15) ++ T7) := hD
  rw [List.append_assoc] at hP hD
  have hP : va_P D vwCl (([(q4, .inl (cy 2, 8, .inr (.inr (.inr (.inr (va_up (va_up (fun _ => none) 0 (some q12)) 1 (some q14))))))), (h0, .inr (9, [.ref q0, .ref q2, .ref q4, .ref q5, .int 0, .ref q6, .ref q8, .ref q10]))]) ++ (wX3 cy q14 u15 ++ T7)) H := hP
  have hD : va_D A (([(q4, .inl (cy 2, 8, .inr (.inr (.inr (.inr (va_up (va_up (fun _ => none) 0 (some q12)) 1 (some q14))))))), (h0, .inr (9, [.ref q0, .ref q2, .ref q4, .ref q5, .int 0, .ref q6, .ref q8, .ref q10]))]) ++ (wX3 cy q14 u15 ++ T7)) := hD
  obtain ⟨T8, hT8⟩ : ∃ T, T = wX3 cy q14 u15 ++ T7 := ⟨_, rfl⟩
  rw [← hT8] at hP hD
  refine lv_iinc (v := 2) (lv' := [(1, .int 2), (0, .ref h0)]) hx hb dX9_init_125 hl (k := 0) rfl rfl (by decide) rfl (fun ls hl => ?_)
  refine lv_goto (tgt := 106) hx hb dX9_init_128 (by decide) ?_
  refine lv_iload_n hx hb dX9_init_106 rfl (lv_at hl 0 rfl) ?_
  refine lv_bipush (v := 8) hx hb dX9_init_107 (by decide) ?_
  refine lv_icmp_ge (tgt := 131) hx hb dX9_init_109 (by decide) (fun c1 => absurd c1 (by decide)) (fun _ => ?_)
  refine lv_aload_n hx hb dX9_init_112 rfl (lv_at hl 1 rfl) ?_
  refine va_get (D := D) (ci := 9) (v := .ref q4) (C := RX9) (T := TX9) (N := 8) hx hb hts iw9_X9_init hown hCn.1 hP 1 rfl rfl 2 (by decide) (hts _ mf25_X9_init) (fun _ h9 => h9) rfl dX9_init_113 ?_
  refine lv_iload_n hx hb dX9_init_116 rfl (lv_at hl 0 rfl) ?_
  refine va_new (D := D) (ci := 3) (fs := [.null, .null, .null, .int 0, .int 0, .int 0, .int 0]) (C := RX3) (T := TX3) (N := 7) hx hb hts iw3_X9_init tyX3 tyX3_ok hown (hts _ mcl23_X9_init) (hts _ min3_X9_init) (hts _ mit3_X9_init) hCn.1 hP hD hS hA rfl df_X3 (Nat.le_of_ble_eq_true rfl) (Nat.le_of_ble_eq_true rfl) dX9_init_117 (fun q16 H hP hD hS => ?_)
  replace hP := hP.perm va_nw
  replace hD := hD.perm va_nw
  refine lv_dup hx hb dX9_init_120 rfl ?_
  refine r_ocall (E := ([(q4, .inl (cy 2, 8, .inr (.inr (.inr (.inr (va_up (va_up (fun _ => none) 0 (some q12)) 1 (some q14))))))), (h0, .inr (9, [.ref q0, .ref q2, .ref q4, .ref q5, .int 0, .ref q6, .ref q8, .ref q10]))])) (T := T8) (r_orunN (E := ([(q4, .inl (cy 2, 8, .inr (.inr (.inr (.inr (va_up (va_up (fun _ => none) 0 (some q12)) 1 (some q14))))))), (h0, .inr (9, [.ref q0, .ref q2, .ref q4, .ref q5, .int 0, .ref q6, .ref q8, .ref q10]))])) (T := T8) (As := []) (rest := [.ref q16, .int 2, .ref q4]) S hCn (n_X3 l D cy q16 H.size) (va_cnB 0 hts gX9_init_X3_init_n68 rfl rfl rfl (hCn.2.1.1 (RX9, 68, yX3_init) (by decide +kernel)) (hts _ mit3_X9_init) (by decide +kernel) ⟨Nat.le_of_ble_eq_true rfl, Nat.le_of_ble_eq_true rfl⟩) rfl (hts _ mimX3_init_X9_init) hP rfl hl.1 rfl (Nat.le_of_ble_eq_true rfl) ⟨Nat.le_of_ble_eq_true rfl, Nat.le_of_ble_eq_true rfl⟩ dX9_init_121) hP hD hS hA (fun u17 H locs hP hD hS => ?_)
  rw [← List.append_assoc] at hP hD
  have hP : va_P D vwCl (([(q4, .inl (cy 2, 8, .inr (.inr (.inr (.inr (va_up (va_up (fun _ => none) 0 (some q12)) 1 (some q14))))))), (h0, .inr (9, [.ref q0, .ref q2, .ref q4, .ref q5, .int 0, .ref q6, .ref q8, .ref q10]))] ++ wX3 cy q16 u17) ++ T8) H := hP
  have hD : va_D A (([(q4, .inl (cy 2, 8, .inr (.inr (.inr (.inr (va_up (va_up (fun _ => none) 0 (some q12)) 1 (some q14))))))), (h0, .inr (9, [.ref q0, .ref q2, .ref q4, .ref q5, .int 0, .ref q6, .ref q8, .ref q10]))] ++ wX3 cy q16 u17) ++ T8) := hD
  refine va_astq (r := (RX3, TX3, 7)) hx hb hCn.1 hP hD hS 0 2 2 3 rfl rfl rfl rfl (vp_in_nI (n := 2) (N := 8) (by decide) (by decide)) dX9_init_124 (fun H locs hP hD hS => ?_)
  have hP : va_P D vwCl (([(q4, .inl (cy 2, 8, .inr (.inr (.inr (.inr (va_up (va_up (va_up (fun _ => none) 0 (some q12)) 1 (some q14)) 2 (some q16))))))), (h0, .inr (9, [.ref q0, .ref q2, .ref q4, .ref q5, .int 0, .ref q6, .ref q8, .ref q10]))] ++ wX3 cy q16 u17) ++ T8) H := hP
  have hD : va_D A (([(q4, .inl (cy 2, 8, .inr (.inr (.inr (.inr (va_up (va_up (va_up (fun _ => none) 0 (some q12)) 1 (some q14)) 2 (some q16))))))), (h0, .inr (9, [.ref q0, .ref q2, .ref q4, .ref q5, .int 0, .ref q6, .ref q8, .ref q10]))] ++ wX3 cy q16 u17) ++ T8) := hD
  rw [List.append_assoc] at hP hD
  have hP : va_P D vwCl (([(q4, .inl (cy 2, 8, .inr (.inr (.inr (.inr (va_up (va_up (va_up (fun _ => none) 0 (some q12)) 1 (some q14)) 2 (some q16))))))), (h0, .inr (9, [.ref q0, .ref q2, .ref q4, .ref q5, .int 0, .ref q6, .ref q8, .ref q10]))]) ++ (wX3 cy q16 u17 ++ T8)) H := hP
  have hD : va_D A (([(q4, .inl (cy 2, 8, .inr (.inr (.inr (.inr (va_up (va_up (va_up (fun _ => none) 0 (some q12)) 1 (some q14)) 2 (some q16))))))), (h0, .inr (9, [.ref q0, .ref q2, .ref q4, .ref q5, .int 0, .ref q6, .ref q8, .ref q10]))]) ++ (wX3 cy q16 u17 ++ T8)) := hD
  obtain ⟨T9, hT9⟩ : ∃ T, T = wX3 cy q16 u17 ++ T8 := ⟨_, rfl⟩
  rw [← hT9] at hP hD
  refine lv_iinc (v := 3) (lv' := [(1, .int 3), (0, .ref h0)]) hx hb dX9_init_125 hl (k := 0) rfl rfl (by decide) rfl (fun ls hl => ?_)
  refine lv_goto (tgt := 106) hx hb dX9_init_128 (by decide) ?_
  refine lv_iload_n hx hb dX9_init_106 rfl (lv_at hl 0 rfl) ?_
  refine lv_bipush (v := 8) hx hb dX9_init_107 (by decide) ?_
  refine lv_icmp_ge (tgt := 131) hx hb dX9_init_109 (by decide) (fun c1 => absurd c1 (by decide)) (fun _ => ?_)
  refine lv_aload_n hx hb dX9_init_112 rfl (lv_at hl 1 rfl) ?_
  refine va_get (D := D) (ci := 9) (v := .ref q4) (C := RX9) (T := TX9) (N := 8) hx hb hts iw9_X9_init hown hCn.1 hP 1 rfl rfl 2 (by decide) (hts _ mf25_X9_init) (fun _ h9 => h9) rfl dX9_init_113 ?_
  refine lv_iload_n hx hb dX9_init_116 rfl (lv_at hl 0 rfl) ?_
  refine va_new (D := D) (ci := 3) (fs := [.null, .null, .null, .int 0, .int 0, .int 0, .int 0]) (C := RX3) (T := TX3) (N := 7) hx hb hts iw3_X9_init tyX3 tyX3_ok hown (hts _ mcl23_X9_init) (hts _ min3_X9_init) (hts _ mit3_X9_init) hCn.1 hP hD hS hA rfl df_X3 (Nat.le_of_ble_eq_true rfl) (Nat.le_of_ble_eq_true rfl) dX9_init_117 (fun q18 H hP hD hS => ?_)
  replace hP := hP.perm va_nw
  replace hD := hD.perm va_nw
  refine lv_dup hx hb dX9_init_120 rfl ?_
  refine r_ocall (E := ([(q4, .inl (cy 2, 8, .inr (.inr (.inr (.inr (va_up (va_up (va_up (fun _ => none) 0 (some q12)) 1 (some q14)) 2 (some q16))))))), (h0, .inr (9, [.ref q0, .ref q2, .ref q4, .ref q5, .int 0, .ref q6, .ref q8, .ref q10]))])) (T := T9) (r_orunN (E := ([(q4, .inl (cy 2, 8, .inr (.inr (.inr (.inr (va_up (va_up (va_up (fun _ => none) 0 (some q12)) 1 (some q14)) 2 (some q16))))))), (h0, .inr (9, [.ref q0, .ref q2, .ref q4, .ref q5, .int 0, .ref q6, .ref q8, .ref q10]))])) (T := T9) (As := []) (rest := [.ref q18, .int 3, .ref q4]) S hCn (n_X3 l D cy q18 H.size) (va_cnB 0 hts gX9_init_X3_init_n68 rfl rfl rfl (hCn.2.1.1 (RX9, 68, yX3_init) (by decide +kernel)) (hts _ mit3_X9_init) (by decide +kernel) ⟨Nat.le_of_ble_eq_true rfl, Nat.le_of_ble_eq_true rfl⟩) rfl (hts _ mimX3_init_X9_init) hP rfl hl.1 rfl (Nat.le_of_ble_eq_true rfl) ⟨Nat.le_of_ble_eq_true rfl, Nat.le_of_ble_eq_true rfl⟩ dX9_init_121) hP hD hS hA (fun u19 H locs hP hD hS => ?_)
  rw [← List.append_assoc] at hP hD
  have hP : va_P D vwCl (([(q4, .inl (cy 2, 8, .inr (.inr (.inr (.inr (va_up (va_up (va_up (fun _ => none) 0 (some q12)) 1 (some q14)) 2 (some q16))))))), (h0, .inr (9, [.ref q0, .ref q2, .ref q4, .ref q5, .int 0, .ref q6, .ref q8, .ref q10]))] ++ wX3 cy q18 u19) ++ T9) H := hP
  have hD : va_D A (([(q4, .inl (cy 2, 8, .inr (.inr (.inr (.inr (va_up (va_up (va_up (fun _ => none) 0 (some q12)) 1 (some q14)) 2 (some q16))))))), (h0, .inr (9, [.ref q0, .ref q2, .ref q4, .ref q5, .int 0, .ref q6, .ref q8, .ref q10]))] ++ wX3 cy q18 u19) ++ T9) := hD
  refine va_astq (r := (RX3, TX3, 7)) hx hb hCn.1 hP hD hS 0 2 2 3 rfl rfl rfl rfl (vp_in_nI (n := 3) (N := 8) (by decide) (by decide)) dX9_init_124 (fun H locs hP hD hS => ?_)
  have hP : va_P D vwCl (([(q4, .inl (cy 2, 8, .inr (.inr (.inr (.inr (va_up (va_up (va_up (va_up (fun _ => none) 0 (some q12)) 1 (some q14)) 2 (some q16)) 3 (some q18))))))), (h0, .inr (9, [.ref q0, .ref q2, .ref q4, .ref q5, .int 0, .ref q6, .ref q8, .ref q10]))] ++ wX3 cy q18 u19) ++ T9) H := hP
  have hD : va_D A (([(q4, .inl (cy 2, 8, .inr (.inr (.inr (.inr (va_up (va_up (va_up (va_up (fun _ => none) 0 (some q12)) 1 (some q14)) 2 (some q16)) 3 (some q18))))))), (h0, .inr (9, [.ref q0, .ref q2, .ref q4, .ref q5, .int 0, .ref q6, .ref q8, .ref q10]))] ++ wX3 cy q18 u19) ++ T9) := hD
  rw [List.append_assoc] at hP hD
  have hP : va_P D vwCl (([(q4, .inl (cy 2, 8, .inr (.inr (.inr (.inr (va_up (va_up (va_up (va_up (fun _ => none) 0 (some q12)) 1 (some q14)) 2 (some q16)) 3 (some q18))))))), (h0, .inr (9, [.ref q0, .ref q2, .ref q4, .ref q5, .int 0, .ref q6, .ref q8, .ref q10]))]) ++ (wX3 cy q18 u19 ++ T9)) H := hP
  have hD : va_D A (([(q4, .inl (cy 2, 8, .inr (.inr (.inr (.inr (va_up (va_up (va_up (va_up (fun _ => none) 0 (some q12)) 1 (some q14)) 2 (some q16)) 3 (some q18))))))), (h0, .inr (9, [.ref q0, .ref q2, .ref q4, .ref q5, .int 0, .ref q6, .ref q8, .ref q10]))]) ++ (wX3 cy q18 u19 ++ T9)) := hD
  obtain ⟨T10, hT10⟩ : ∃ T, T = wX3 cy q18 u19 ++ T9 := ⟨_, rfl⟩
  rw [← hT10] at hP hD
  refine lv_iinc (v := 4) (lv' := [(1, .int 4), (0, .ref h0)]) hx hb dX9_init_125 hl (k := 0) rfl rfl (by decide) rfl (fun ls hl => ?_)
  refine lv_goto (tgt := 106) hx hb dX9_init_128 (by decide) ?_
  refine lv_iload_n hx hb dX9_init_106 rfl (lv_at hl 0 rfl) ?_
  refine lv_bipush (v := 8) hx hb dX9_init_107 (by decide) ?_
  refine lv_icmp_ge (tgt := 131) hx hb dX9_init_109 (by decide) (fun c1 => absurd c1 (by decide)) (fun _ => ?_)
  refine lv_aload_n hx hb dX9_init_112 rfl (lv_at hl 1 rfl) ?_
  refine va_get (D := D) (ci := 9) (v := .ref q4) (C := RX9) (T := TX9) (N := 8) hx hb hts iw9_X9_init hown hCn.1 hP 1 rfl rfl 2 (by decide) (hts _ mf25_X9_init) (fun _ h9 => h9) rfl dX9_init_113 ?_
  refine lv_iload_n hx hb dX9_init_116 rfl (lv_at hl 0 rfl) ?_
  refine va_new (D := D) (ci := 3) (fs := [.null, .null, .null, .int 0, .int 0, .int 0, .int 0]) (C := RX3) (T := TX3) (N := 7) hx hb hts iw3_X9_init tyX3 tyX3_ok hown (hts _ mcl23_X9_init) (hts _ min3_X9_init) (hts _ mit3_X9_init) hCn.1 hP hD hS hA rfl df_X3 (Nat.le_of_ble_eq_true rfl) (Nat.le_of_ble_eq_true rfl) dX9_init_117 (fun q20 H hP hD hS => ?_)
  replace hP := hP.perm va_nw
  replace hD := hD.perm va_nw
  refine lv_dup hx hb dX9_init_120 rfl ?_
  refine r_ocall (E := ([(q4, .inl (cy 2, 8, .inr (.inr (.inr (.inr (va_up (va_up (va_up (va_up (fun _ => none) 0 (some q12)) 1 (some q14)) 2 (some q16)) 3 (some q18))))))), (h0, .inr (9, [.ref q0, .ref q2, .ref q4, .ref q5, .int 0, .ref q6, .ref q8, .ref q10]))])) (T := T10) (r_orunN (E := ([(q4, .inl (cy 2, 8, .inr (.inr (.inr (.inr (va_up (va_up (va_up (va_up (fun _ => none) 0 (some q12)) 1 (some q14)) 2 (some q16)) 3 (some q18))))))), (h0, .inr (9, [.ref q0, .ref q2, .ref q4, .ref q5, .int 0, .ref q6, .ref q8, .ref q10]))])) (T := T10) (As := []) (rest := [.ref q20, .int 4, .ref q4]) S hCn (n_X3 l D cy q20 H.size) (va_cnB 0 hts gX9_init_X3_init_n68 rfl rfl rfl (hCn.2.1.1 (RX9, 68, yX3_init) (by decide +kernel)) (hts _ mit3_X9_init) (by decide +kernel) ⟨Nat.le_of_ble_eq_true rfl, Nat.le_of_ble_eq_true rfl⟩) rfl (hts _ mimX3_init_X9_init) hP rfl hl.1 rfl (Nat.le_of_ble_eq_true rfl) ⟨Nat.le_of_ble_eq_true rfl, Nat.le_of_ble_eq_true rfl⟩ dX9_init_121) hP hD hS hA (fun u21 H locs hP hD hS => ?_)
  rw [← List.append_assoc] at hP hD
  have hP : va_P D vwCl (([(q4, .inl (cy 2, 8, .inr (.inr (.inr (.inr (va_up (va_up (va_up (va_up (fun _ => none) 0 (some q12)) 1 (some q14)) 2 (some q16)) 3 (some q18))))))), (h0, .inr (9, [.ref q0, .ref q2, .ref q4, .ref q5, .int 0, .ref q6, .ref q8, .ref q10]))] ++ wX3 cy q20 u21) ++ T10) H := hP
  have hD : va_D A (([(q4, .inl (cy 2, 8, .inr (.inr (.inr (.inr (va_up (va_up (va_up (va_up (fun _ => none) 0 (some q12)) 1 (some q14)) 2 (some q16)) 3 (some q18))))))), (h0, .inr (9, [.ref q0, .ref q2, .ref q4, .ref q5, .int 0, .ref q6, .ref q8, .ref q10]))] ++ wX3 cy q20 u21) ++ T10) := hD
  refine va_astq (r := (RX3, TX3, 7)) hx hb hCn.1 hP hD hS 0 2 2 3 rfl rfl rfl rfl (vp_in_nI (n := 4) (N := 8) (by decide) (by decide)) dX9_init_124 (fun H locs hP hD hS => ?_)
  have hP : va_P D vwCl (([(q4, .inl (cy 2, 8, .inr (.inr (.inr (.inr (va_up (va_up (va_up (va_up (va_up (fun _ => none) 0 (some q12)) 1 (some q14)) 2 (some q16)) 3 (some q18)) 4 (some q20))))))), (h0, .inr (9, [.ref q0, .ref q2, .ref q4, .ref q5, .int 0, .ref q6, .ref q8, .ref q10]))] ++ wX3 cy q20 u21) ++ T10) H := hP
  have hD : va_D A (([(q4, .inl (cy 2, 8, .inr (.inr (.inr (.inr (va_up (va_up (va_up (va_up (va_up (fun _ => none) 0 (some q12)) 1 (some q14)) 2 (some q16)) 3 (some q18)) 4 (some q20))))))), (h0, .inr (9, [.ref q0, .ref q2, .ref q4, .ref q5, .int 0, .ref q6, .ref q8, .ref q10]))] ++ wX3 cy q20 u21) ++ T10) := hD
  rw [List.append_assoc] at hP hD
  have hP : va_P D vwCl (([(q4, .inl (cy 2, 8, .inr (.inr (.inr (.inr (va_up (va_up (va_up (va_up (va_up (fun _ => none) 0 (some q12)) 1 (some q14)) 2 (some q16)) 3 (some q18)) 4 (some q20))))))), (h0, .inr (9, [.ref q0, .ref q2, .ref q4, .ref q5, .int 0, .ref q6, .ref q8, .ref q10]))]) ++ (wX3 cy q20 u21 ++ T10)) H := hP
  have hD : va_D A (([(q4, .inl (cy 2, 8, .inr (.inr (.inr (.inr (va_up (va_up (va_up (va_up (va_up (fun _ => none) 0 (some q12)) 1 (some q14)) 2 (some q16)) 3 (some q18)) 4 (some q20))))))), (h0, .inr (9, [.ref q0, .ref q2, .ref q4, .ref q5, .int 0, .ref q6, .ref q8, .ref q10]))]) ++ (wX3 cy q20 u21 ++ T10)) := hD
  obtain ⟨T11, hT11⟩ : ∃ T, T = wX3 cy q20 u21 ++ T10 := ⟨_, rfl⟩
  rw [← hT11] at hP hD
  refine lv_iinc (v := 5) (lv' := [(1, .int 5), (0, .ref h0)]) hx hb dX9_init_125 hl (k := 0) rfl rfl (by decide) rfl (fun ls hl => ?_)
  refine lv_goto (tgt := 106) hx hb dX9_init_128 (by decide) ?_
  refine lv_iload_n hx hb dX9_init_106 rfl (lv_at hl 0 rfl) ?_
  refine lv_bipush (v := 8) hx hb dX9_init_107 (by decide) ?_
  refine lv_icmp_ge (tgt := 131) hx hb dX9_init_109 (by decide) (fun c1 => absurd c1 (by decide)) (fun _ => ?_)
  refine lv_aload_n hx hb dX9_init_112 rfl (lv_at hl 1 rfl) ?_
  refine va_get (D := D) (ci := 9) (v := .ref q4) (C := RX9) (T := TX9) (N := 8) hx hb hts iw9_X9_init hown hCn.1 hP 1 rfl rfl 2 (by decide) (hts _ mf25_X9_init) (fun _ h9 => h9) rfl dX9_init_113 ?_
  refine lv_iload_n hx hb dX9_init_116 rfl (lv_at hl 0 rfl) ?_
  refine va_new (D := D) (ci := 3) (fs := [.null, .null, .null, .int 0, .int 0, .int 0, .int 0]) (C := RX3) (T := TX3) (N := 7) hx hb hts iw3_X9_init tyX3 tyX3_ok hown (hts _ mcl23_X9_init) (hts _ min3_X9_init) (hts _ mit3_X9_init) hCn.1 hP hD hS hA rfl df_X3 (Nat.le_of_ble_eq_true rfl) (Nat.le_of_ble_eq_true rfl) dX9_init_117 (fun q22 H hP hD hS => ?_)
  replace hP := hP.perm va_nw
  replace hD := hD.perm va_nw
  refine lv_dup hx hb dX9_init_120 rfl ?_
  refine r_ocall (E := ([(q4, .inl (cy 2, 8, .inr (.inr (.inr (.inr (va_up (va_up (va_up (va_up (va_up (fun _ => none) 0 (some q12)) 1 (some q14)) 2 (some q16)) 3 (some q18)) 4 (some q20))))))), (h0, .inr (9, [.ref q0, .ref q2, .ref q4, .ref q5, .int 0, .ref q6, .ref q8, .ref q10]))])) (T := T11) (r_orunN (E := ([(q4, .inl (cy 2, 8, .inr (.inr (.inr (.inr (va_up (va_up (va_up (va_up (va_up (fun _ => none) 0 (some q12)) 1 (some q14)) 2 (some q16)) 3 (some q18)) 4 (some q20))))))), (h0, .inr (9, [.ref q0, .ref q2, .ref q4, .ref q5, .int 0, .ref q6, .ref q8, .ref q10]))])) (T := T11) (As := []) (rest := [.ref q22, .int 5, .ref q4]) S hCn (n_X3 l D cy q22 H.size) (va_cnB 0 hts gX9_init_X3_init_n68 rfl rfl rfl (hCn.2.1.1 (RX9, 68, yX3_init) (by decide +kernel)) (hts _ mit3_X9_init) (by decide +kernel) ⟨Nat.le_of_ble_eq_true rfl, Nat.le_of_ble_eq_true rfl⟩) rfl (hts _ mimX3_init_X9_init) hP rfl hl.1 rfl (Nat.le_of_ble_eq_true rfl) ⟨Nat.le_of_ble_eq_true rfl, Nat.le_of_ble_eq_true rfl⟩ dX9_init_121) hP hD hS hA (fun u23 H locs hP hD hS => ?_)
  rw [← List.append_assoc] at hP hD
  have hP : va_P D vwCl (([(q4, .inl (cy 2, 8, .inr (.inr (.inr (.inr (va_up (va_up (va_up (va_up (va_up (fun _ => none) 0 (some q12)) 1 (some q14)) 2 (some q16)) 3 (some q18)) 4 (some q20))))))), (h0, .inr (9, [.ref q0, .ref q2, .ref q4, .ref q5, .int 0, .ref q6, .ref q8, .ref q10]))] ++ wX3 cy q22 u23) ++ T11) H := hP
  have hD : va_D A (([(q4, .inl (cy 2, 8, .inr (.inr (.inr (.inr (va_up (va_up (va_up (va_up (va_up (fun _ => none) 0 (some q12)) 1 (some q14)) 2 (some q16)) 3 (some q18)) 4 (some q20))))))), (h0, .inr (9, [.ref q0, .ref q2, .ref q4, .ref q5, .int 0, .ref q6, .ref q8, .ref q10]))] ++ wX3 cy q22 u23) ++ T11) := hD
  refine va_astq (r := (RX3, TX3, 7)) hx hb hCn.1 hP hD hS 0 2 2 3 rfl rfl rfl rfl (vp_in_nI (n := 5) (N := 8) (by decide) (by decide)) dX9_init_124 (fun H locs hP hD hS => ?_)
  have hP : va_P D vwCl (([(q4, .inl (cy 2, 8, .inr (.inr (.inr (.inr (va_up (va_up (va_up (va_up (va_up (va_up (fun _ => none) 0 (some q12)) 1 (some q14)) 2 (some q16)) 3 (some q18)) 4 (some q20)) 5 (some q22))))))), (h0, .inr (9, [.ref q0, .ref q2, .ref q4, .ref q5, .int 0, .ref q6, .ref q8, .ref q10]))] ++ wX3 cy q22 u23) ++ T11) H := hP
  have hD : va_D A (([(q4, .inl (cy 2, 8, .inr (.inr (.inr (.inr (va_up (va_up (va_up (va_up (va_up (va_up (fun _ => none) 0 (some q12)) 1 (some q14)) 2 (some q16)) 3 (some q18)) 4 (some q20)) 5 (some q22))))))), (h0, .inr (9, [.ref q0, .ref q2, .ref q4, .ref q5, .int 0, .ref q6, .ref q8, .ref q10]))] ++ wX3 cy q22 u23) ++ T11) := hD
  rw [List.append_assoc] at hP hD
  have hP : va_P D vwCl (([(q4, .inl (cy 2, 8, .inr (.inr (.inr (.inr (va_up (va_up (va_up (va_up (va_up (va_up (fun _ => none) 0 (some q12)) 1 (some q14)) 2 (some q16)) 3 (some q18)) 4 (some q20)) 5 (some q22))))))), (h0, .inr (9, [.ref q0, .ref q2, .ref q4, .ref q5, .int 0, .ref q6, .ref q8, .ref q10]))]) ++ (wX3 cy q22 u23 ++ T11)) H := hP
  have hD : va_D A (([(q4, .inl (cy 2, 8, .inr (.inr (.inr (.inr (va_up (va_up (va_up (va_up (va_up (va_up (fun _ => none) 0 (some q12)) 1 (some q14)) 2 (some q16)) 3 (some q18)) 4 (some q20)) 5 (some q22))))))), (h0, .inr (9, [.ref q0, .ref q2, .ref q4, .ref q5, .int 0, .ref q6, .ref q8, .ref q10]))]) ++ (wX3 cy q22 u23 ++ T11)) := hD
  obtain ⟨T12, hT12⟩ : ∃ T, T = wX3 cy q22 u23 ++ T11 := ⟨_, rfl⟩
  rw [← hT12] at hP hD
  refine lv_iinc (v := 6) (lv' := [(1, .int 6), (0, .ref h0)]) hx hb dX9_init_125 hl (k := 0) rfl rfl (by decide) rfl (fun ls hl => ?_)
  refine lv_goto (tgt := 106) hx hb dX9_init_128 (by decide) ?_
  refine lv_iload_n hx hb dX9_init_106 rfl (lv_at hl 0 rfl) ?_
  refine lv_bipush (v := 8) hx hb dX9_init_107 (by decide) ?_
  refine lv_icmp_ge (tgt := 131) hx hb dX9_init_109 (by decide) (fun c1 => absurd c1 (by decide)) (fun _ => ?_)
  refine lv_aload_n hx hb dX9_init_112 rfl (lv_at hl 1 rfl) ?_
  refine va_get (D := D) (ci := 9) (v := .ref q4) (C := RX9) (T := TX9) (N := 8) hx hb hts iw9_X9_init hown hCn.1 hP 1 rfl rfl 2 (by decide) (hts _ mf25_X9_init) (fun _ h9 => h9) rfl dX9_init_113 ?_
  refine lv_iload_n hx hb dX9_init_116 rfl (lv_at hl 0 rfl) ?_
  refine va_new (D := D) (ci := 3) (fs := [.null, .null, .null, .int 0, .int 0, .int 0, .int 0]) (C := RX3) (T := TX3) (N := 7) hx hb hts iw3_X9_init tyX3 tyX3_ok hown (hts _ mcl23_X9_init) (hts _ min3_X9_init) (hts _ mit3_X9_init) hCn.1 hP hD hS hA rfl df_X3 (Nat.le_of_ble_eq_true rfl) (Nat.le_of_ble_eq_true rfl) dX9_init_117 (fun q24 H hP hD hS => ?_)
  replace hP := hP.perm va_nw
  replace hD := hD.perm va_nw
  refine lv_dup hx hb dX9_init_120 rfl ?_
  refine r_ocall (E := ([(q4, .inl (cy 2, 8, .inr (.inr (.inr (.inr (va_up (va_up (va_up (va_up (va_up (va_up (fun _ => none) 0 (some q12)) 1 (some q14)) 2 (some q16)) 3 (some q18)) 4 (some q20)) 5 (some q22))))))), (h0, .inr (9, [.ref q0, .ref q2, .ref q4, .ref q5, .int 0, .ref q6, .ref q8, .ref q10]))])) (T := T12) (r_orunN (E := ([(q4, .inl (cy 2, 8, .inr (.inr (.inr (.inr (va_up (va_up (va_up (va_up (va_up (va_up (fun _ => none) 0 (some q12)) 1 (some q14)) 2 (some q16)) 3 (some q18)) 4 (some q20)) 5 (some q22))))))), (h0, .inr (9, [.ref q0, .ref q2, .ref q4, .ref q5, .int 0, .ref q6, .ref q8, .ref q10]))])) (T := T12) (As := []) (rest := [.ref q24, .int 6, .ref q4]) S hCn (n_X3 l D cy q24 H.size) (va_cnB 0 hts gX9_init_X3_init_n68 rfl rfl rfl (hCn.2.1.1 (RX9, 68, yX3_init) (by decide +kernel)) (hts _ mit3_X9_init) (by decide +kernel) ⟨Nat.le_of_ble_eq_true rfl, Nat.le_of_ble_eq_true rfl⟩) rfl (hts _ mimX3_init_X9_init) hP rfl hl.1 rfl (Nat.le_of_ble_eq_true rfl) ⟨Nat.le_of_ble_eq_true rfl, Nat.le_of_ble_eq_true rfl⟩ dX9_init_121) hP hD hS hA (fun u25 H locs hP hD hS => ?_)
  rw [← List.append_assoc] at hP hD
  have hP : va_P D vwCl (([(q4, .inl (cy 2, 8, .inr (.inr (.inr (.inr (va_up (va_up (va_up (va_up (va_up (va_up (fun _ => none) 0 (some q12)) 1 (some q14)) 2 (some q16)) 3 (some q18)) 4 (some q20)) 5 (some q22))))))), (h0, .inr (9, [.ref q0, .ref q2, .ref q4, .ref q5, .int 0, .ref q6, .ref q8, .ref q10]))] ++ wX3 cy q24 u25) ++ T12) H := hP
  have hD : va_D A (([(q4, .inl (cy 2, 8, .inr (.inr (.inr (.inr (va_up (va_up (va_up (va_up (va_up (va_up (fun _ => none) 0 (some q12)) 1 (some q14)) 2 (some q16)) 3 (some q18)) 4 (some q20)) 5 (some q22))))))), (h0, .inr (9, [.ref q0, .ref q2, .ref q4, .ref q5, .int 0, .ref q6, .ref q8, .ref q10]))] ++ wX3 cy q24 u25) ++ T12) := hD
  refine va_astq (r := (RX3, TX3, 7)) hx hb hCn.1 hP hD hS 0 2 2 3 rfl rfl rfl rfl (vp_in_nI (n := 6) (N := 8) (by decide) (by decide)) dX9_init_124 (fun H locs hP hD hS => ?_)
  have hP : va_P D vwCl (([(q4, .inl (cy 2, 8, .inr (.inr (.inr (.inr (va_up (va_up (va_up (va_up (va_up (va_up (va_up (fun _ => none) 0 (some q12)) 1 (some q14)) 2 (some q16)) 3 (some q18)) 4 (some q20)) 5 (some q22)) 6 (some q24))))))), (h0, .inr (9, [.ref q0, .ref q2, .ref q4, .ref q5, .int 0, .ref q6, .ref q8, .ref q10]))] ++ wX3 cy q24 u25) ++ T12) H := hP
  have hD : va_D A (([(q4, .inl (cy 2, 8, .inr (.inr (.inr (.inr (va_up (va_up (va_up (va_up (va_up (va_up (va_up (fun _ => none) 0 (some q12)) 1 (some q14)) 2 (some q16)) 3 (some q18)) 4 (some q20)) 5 (some q22)) 6 (some q24))))))), (h0, .inr (9, [.ref q0, .ref q2, .ref q4, .ref q5, .int 0, .ref q6, .ref q8, .ref q10]))] ++ wX3 cy q24 u25) ++ T12) := hD
  rw [List.append_assoc] at hP hD
  have hP : va_P D vwCl (([(q4, .inl (cy 2, 8, .inr (.inr (.inr (.inr (va_up (va_up (va_up (va_up (va_up (va_up (va_up (fun _ => none) 0 (some q12)) 1 (some q14)) 2 (some q16)) 3 (some q18)) 4 (some q20)) 5 (some q22)) 6 (some q24))))))), (h0, .inr (9, [.ref q0, .ref q2, .ref q4, .ref q5, .int 0, .ref q6, .ref q8, .ref q10]))]) ++ (wX3 cy q24 u25 ++ T12)) H := hP
  have hD : va_D A (([(q4, .inl (cy 2, 8, .inr (.inr (.inr (.inr (va_up (va_up (va_up (va_up (va_up (va_up (va_up (fun _ => none) 0 (some q12)) 1 (some q14)) 2 (some q16)) 3 (some q18)) 4 (some q20)) 5 (some q22)) 6 (some q24))))))), (h0, .inr (9, [.ref q0, .ref q2, .ref q4, .ref q5, .int 0, .ref q6, .ref q8, .ref q10]))]) ++ (wX3 cy q24 u25 ++ T12)) := hD
  obtain ⟨T13, hT13⟩ : ∃ T, T = wX3 cy q24 u25 ++ T12 := ⟨_, rfl⟩
  rw [← hT13] at hP hD
  refine lv_iinc (v := 7) (lv' := [(1, .int 7), (0, .ref h0)]) hx hb dX9_init_125 hl (k := 0) rfl rfl (by decide) rfl (fun ls hl => ?_)
  refine lv_goto (tgt := 106) hx hb dX9_init_128 (by decide) ?_
  refine lv_iload_n hx hb dX9_init_106 rfl (lv_at hl 0 rfl) ?_
  refine lv_bipush (v := 8) hx hb dX9_init_107 (by decide) ?_
  refine lv_icmp_ge (tgt := 131) hx hb dX9_init_109 (by decide) (fun c1 => absurd c1 (by decide)) (fun _ => ?_)
  refine lv_aload_n hx hb dX9_init_112 rfl (lv_at hl 1 rfl) ?_
  refine va_get (D := D) (ci := 9) (v := .ref q4) (C := RX9) (T := TX9) (N := 8) hx hb hts iw9_X9_init hown hCn.1 hP 1 rfl rfl 2 (by decide) (hts _ mf25_X9_init) (fun _ h9 => h9) rfl dX9_init_113 ?_
  refine lv_iload_n hx hb dX9_init_116 rfl (lv_at hl 0 rfl) ?_
  refine va_new (D := D) (ci := 3) (fs := [.null, .null, .null, .int 0, .int 0, .int 0, .int 0]) (C := RX3) (T := TX3) (N := 7) hx hb hts iw3_X9_init tyX3 tyX3_ok hown (hts _ mcl23_X9_init) (hts _ min3_X9_init) (hts _ mit3_X9_init) hCn.1 hP hD hS hA rfl df_X3 (Nat.le_of_ble_eq_true rfl) (Nat.le_of_ble_eq_true rfl) dX9_init_117 (fun q26 H hP hD hS => ?_)
  replace hP := hP.perm va_nw
  replace hD := hD.perm va_nw
  refine lv_dup hx hb dX9_init_120 rfl ?_
  refine r_ocall (E := ([(q4, .inl (cy 2, 8, .inr (.inr (.inr (.inr (va_up (va_up (va_up (va_up (va_up (va_up (va_up (fun _ => none) 0 (some q12)) 1 (some q14)) 2 (some q16)) 3 (some q18)) 4 (some q20)) 5 (some q22)) 6 (some q24))))))), (h0, .inr (9, [.ref q0, .ref q2, .ref q4, .ref q5, .int 0, .ref q6, .ref q8, .ref q10]))])) (T := T13) (r_orunN (E := ([(q4, .inl (cy 2, 8, .inr (.inr (.inr (.inr (va_up (va_up (va_up (va_up (va_up (va_up (va_up (fun _ => none) 0 (some q12)) 1 (some q14)) 2 (some q16)) 3 (some q18)) 4 (some q20)) 5 (some q22)) 6 (some q24))))))), (h0, .inr (9, [.ref q0, .ref q2, .ref q4, .ref q5, .int 0, .ref q6, .ref q8, .ref q10]))])) (T := T13) (As := []) (rest := [.ref q26, .int 7, .ref q4]) S hCn (n_X3 l D cy q26 H.size) (va_cnB 0 hts gX9_init_X3_init_n68 rfl rfl rfl (hCn.2.1.1 (RX9, 68, yX3_init) (by decide +kernel)) (hts _ mit3_X9_init) (by decide +kernel) ⟨Nat.le_of_ble_eq_true rfl, Nat.le_of_ble_eq_true rfl⟩) rfl (hts _ mimX3_init_X9_init) hP rfl hl.1 rfl (Nat.le_of_ble_eq_true rfl) ⟨Nat.le_of_ble_eq_true rfl, Nat.le_of_ble_eq_true rfl⟩ dX9_init_121) hP hD hS hA (fun u27 H locs hP hD hS => ?_)
  rw [← List.append_assoc] at hP hD
  have hP : va_P D vwCl (([(q4, .inl (cy 2, 8, .inr (.inr (.inr (.inr (va_up (va_up (va_up (va_up (va_up (va_up (va_up (fun _ => none) 0 (some q12)) 1 (some q14)) 2 (some q16)) 3 (some q18)) 4 (some q20)) 5 (some q22)) 6 (some q24))))))), (h0, .inr (9, [.ref q0, .ref q2, .ref q4, .ref q5, .int 0, .ref q6, .ref q8, .ref q10]))] ++ wX3 cy q26 u27) ++ T13) H := hP
  have hD : va_D A (([(q4, .inl (cy 2, 8, .inr (.inr (.inr (.inr (va_up (va_up (va_up (va_up (va_up (va_up (va_up (fun _ => none) 0 (some q12)) 1 (some q14)) 2 (some q16)) 3 (some q18)) 4 (some q20)) 5 (some q22)) 6 (some q24))))))), (h0, .inr (9, [.ref q0, .ref q2, .ref q4, .ref q5, .int 0, .ref q6, .ref q8, .ref q10]))] ++ wX3 cy q26 u27) ++ T13) := hD
  refine va_astq (r := (RX3, TX3, 7)) hx hb hCn.1 hP hD hS 0 2 2 3 rfl rfl rfl rfl (vp_in_nI (n := 7) (N := 8) (by decide) (by decide)) dX9_init_124 (fun H locs hP hD hS => ?_)
  have hP : va_P D vwCl (([(q4, .inl (cy 2, 8, .inr (.inr (.inr (.inr (va_up (va_up (va_up (va_up (va_up (va_up (va_up (va_up (fun _ => none) 0 (some q12)) 1 (some q14)) 2 (some q16)) 3 (some q18)) 4 (some q20)) 5 (some q22)) 6 (some q24)) 7 (some q26))))))), (h0, .inr (9, [.ref q0, .ref q2, .ref q4, .ref q5, .int 0, .ref q6, .ref q8, .ref q10]))] ++ wX3 cy q26 u27) ++ T13) H := hP
  have hD : va_D A (([(q4, .inl (cy 2, 8, .inr (.inr (.inr (.inr (va_up (va_up (va_up (va_up (va_up (va_up (va_up (va_up (fun _ => none) 0 (some q12)) 1 (some q14)) 2 (some q16)) 3 (some q18)) 4 (some q20)) 5 (some q22)) 6 (some q24)) 7 (some q26))))))), (h0, .inr (9, [.ref q0, .ref q2, .ref q4, .ref q5, .int 0, .ref q6, .ref q8, .ref q10]))] ++ wX3 cy q26 u27) ++ T13) := hD
  rw [List.append_assoc] at hP hD
  have hP : va_P D vwCl (([(q4, .inl (cy 2, 8, .inr (.inr (.inr (.inr (va_up (va_up (va_up (va_up (va_up (va_up (va_up (va_up (fun _ => none) 0 (some q12)) 1 (some q14)) 2 (some q16)) 3 (some q18)) 4 (some q20)) 5 (some q22)) 6 (some q24)) 7 (some q26))))))), (h0, .inr (9, [.ref q0, .ref q2, .ref q4, .ref q5, .int 0, .ref q6, .ref q8, .ref q10]))]) ++ (wX3 cy q26 u27 ++ T13)) H := hP
  have hD : va_D A (([(q4, .inl (cy 2, 8, .inr (.inr (.inr (.inr (va_up (va_up (va_up (va_up (va_up (va_up (va_up (va_up (fun _ => none) 0 (some q12)) 1 (some q14)) 2 (some q16)) 3 (some q18)) 4 (some q20)) 5 (some q22)) 6 (some q24)) 7 (some q26))))))), (h0, .inr (9, [.ref q0, .ref q2, .ref q4, .ref q5, .int 0, .ref q6, .ref q8, .ref q10]))]) ++ (wX3 cy q26 u27 ++ T13)) := hD
  obtain ⟨T14, hT14⟩ : ∃ T, T = wX3 cy q26 u27 ++ T13 := ⟨_, rfl⟩
  rw [← hT14] at hP hD
  refine lv_iinc (v := 8) (lv' := [(1, .int 8), (0, .ref h0)]) hx hb dX9_init_125 hl (k := 0) rfl rfl (by decide) rfl (fun ls hl => ?_)
  refine lv_goto (tgt := 106) hx hb dX9_init_128 (by decide) ?_
  refine lv_iload_n hx hb dX9_init_106 rfl (lv_at hl 0 rfl) ?_
  refine lv_bipush (v := 8) hx hb dX9_init_107 (by decide) ?_
  refine lv_icmp_ge (tgt := 131) hx hb dX9_init_109 (by decide) (fun _ => ?_) (fun c1 => absurd (by decide) c1)
  refine W.widen (k := 71) (n := 31406) (Nat.le_of_ble_eq_true rfl) (Nat.le_of_ble_eq_true rfl) ?_
  subst hT0
  subst hT1
  subst hT2
  subst hT3
  subst hT4
  subst hT5
  subst hT6
  subst hT7
  subst hT8
  subst hT9
  subst hT10
  subst hT11
  subst hT12
  subst hT13
  subst hT14
  exact r_nret (w1 := wX9 cy h0) S hr hlocks (fun k => ([q4, q26, u27 0, u27 1, u27 2, q24, u25 0, u25 1, u25 2, q22, u23 0, u23 1, u23 2, q20, u21 0, u21 1, u21 2, q18, u19 0, u19 1, u19 2, q16, u17 0, u17 1, u17 2, q14, u15 0, u15 1, u15 2, q12, u13 0, u13 1, u13 2, q10, u11 0, u11 1, u11 2, u11 3, q2, u3 0, u3 1, u3 2, u3 3, u3 4, u3 5, u3 6, u3 7, u3 8, q8, u9 0, u9 1, u9 2, u9 3, u9 4, u9 5, u9 6, u9 7, q6, u7 0, u7 1, u7 2, u7 3, u7 4, u7 5, u7 6, u7 7, u7 8, u7 9, q5, q0, u1 0] : List Nat).getD k 0) hP hD hS dX9_init_131
