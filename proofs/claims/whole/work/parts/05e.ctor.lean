theorem moi_X10_init : Cond.methodLink RX10 1 objectInit ∈ wsX10_init := by decide +kernel
theorem mom_X10_init : Cond.instanceMethod objectInit ∈ wsX10_init := by decide +kernel
theorem moc_X10_init : Cond.code objectInit ⟨#[0xb1]⟩ 1 none ∈ wsX10_init := by decide +kernel
theorem mf7_X10_init : Cond.fieldLink RX10 7 "GasVoyagesModel" "wide" "I" ∈ wsX10_init := by decide +kernel
set_option maxRecDepth 20000 in
theorem iw10_X10_init : ∀ w ∈ u_ws RX10 TX10 43, w ∈ wsX10_init := by decide +kernel
theorem mf13_X10_init : Cond.fieldLink RX10 13 "GasVoyagesModel" "high" "I" ∈ wsX10_init := by decide +kernel
theorem maci_X10_init : Cond.arrayClass .int ∈ wsX10_init := by decide +kernel
theorem mf16_X10_init : Cond.fieldLink RX10 16 "GasVoyagesModel" "kinds" "[I" ∈ wsX10_init := by decide +kernel
theorem mf20_X10_init : Cond.fieldLink RX10 20 "GasVoyagesModel" "density" "[I" ∈ wsX10_init := by decide +kernel
theorem mf23_X10_init : Cond.fieldLink RX10 23 "GasVoyagesModel" "fullness" "[I" ∈ wsX10_init := by decide +kernel
theorem mf26_X10_init : Cond.fieldLink RX10 26 "GasVoyagesModel" "warmth" "[I" ∈ wsX10_init := by decide +kernel
theorem mf29_X10_init : Cond.fieldLink RX10 29 "GasVoyagesModel" "windX" "[I" ∈ wsX10_init := by decide +kernel
theorem mf32_X10_init : Cond.fieldLink RX10 32 "GasVoyagesModel" "windY" "[I" ∈ wsX10_init := by decide +kernel
theorem mf35_X10_init : Cond.fieldLink RX10 35 "GasVoyagesModel" "fx" "[I" ∈ wsX10_init := by decide +kernel
theorem mf38_X10_init : Cond.fieldLink RX10 38 "GasVoyagesModel" "fy" "[I" ∈ wsX10_init := by decide +kernel
theorem mf41_X10_init : Cond.fieldLink RX10 41 "GasVoyagesModel" "fl" "[I" ∈ wsX10_init := by decide +kernel
theorem mf44_X10_init : Cond.fieldLink RX10 44 "GasVoyagesModel" "ft" "[I" ∈ wsX10_init := by decide +kernel
theorem mf47_X10_init : Cond.fieldLink RX10 47 "GasVoyagesModel" "load" "[I" ∈ wsX10_init := by decide +kernel
theorem mf50_X10_init : Cond.fieldLink RX10 50 "GasVoyagesModel" "gas" "[I" ∈ wsX10_init := by decide +kernel
theorem mf53_X10_init : Cond.fieldLink RX10 53 "GasVoyagesModel" "ballast" "[I" ∈ wsX10_init := by decide +kernel
theorem mf56_X10_init : Cond.fieldLink RX10 56 "GasVoyagesModel" "gone" "[I" ∈ wsX10_init := by decide +kernel
theorem macz_X10_init : Cond.arrayClass .boolean ∈ wsX10_init := by decide +kernel
theorem mf59_X10_init : Cond.fieldLink RX10 59 "GasVoyagesModel" "landed" "[Z" ∈ wsX10_init := by decide +kernel
theorem mf63_X10_init : Cond.fieldLink RX10 63 "GasVoyagesModel" "begun" "[I" ∈ wsX10_init := by decide +kernel
theorem mf66_X10_init : Cond.fieldLink RX10 66 "GasVoyagesModel" "entries" "[I" ∈ wsX10_init := by decide +kernel
theorem mf69_X10_init : Cond.fieldLink RX10 69 "GasVoyagesModel" "logCell" "[I" ∈ wsX10_init := by decide +kernel
theorem mf72_X10_init : Cond.fieldLink RX10 72 "GasVoyagesModel" "logLevel" "[I" ∈ wsX10_init := by decide +kernel
theorem mf75_X10_init : Cond.fieldLink RX10 75 "GasVoyagesModel" "lost" "[Z" ∈ wsX10_init := by decide +kernel
theorem mf78_X10_init : Cond.fieldLink RX10 78 "GasVoyagesModel" "cx" "[I" ∈ wsX10_init := by decide +kernel
theorem mf81_X10_init : Cond.fieldLink RX10 81 "GasVoyagesModel" "cy" "[I" ∈ wsX10_init := by decide +kernel
theorem mf84_X10_init : Cond.fieldLink RX10 84 "GasVoyagesModel" "pace" "[I" ∈ wsX10_init := by decide +kernel
theorem mf87_X10_init : Cond.fieldLink RX10 87 "GasVoyagesModel" "plan" "[I" ∈ wsX10_init := by decide +kernel
theorem mf90_X10_init : Cond.fieldLink RX10 90 "GasVoyagesModel" "whole" "[I" ∈ wsX10_init := by decide +kernel
theorem mf93_X10_init : Cond.fieldLink RX10 93 "GasVoyagesModel" "broken" "[I" ∈ wsX10_init := by decide +kernel
theorem mf96_X10_init : Cond.fieldLink RX10 96 "GasVoyagesModel" "nextWhole" "[I" ∈ wsX10_init := by decide +kernel
theorem mf99_X10_init : Cond.fieldLink RX10 99 "GasVoyagesModel" "nextBroken" "[I" ∈ wsX10_init := by decide +kernel
theorem mf102_X10_init : Cond.fieldLink RX10 102 "GasVoyagesModel" "far" "[I" ∈ wsX10_init := by decide +kernel
theorem mf105_X10_init : Cond.fieldLink RX10 105 "GasVoyagesModel" "counts" "[Z" ∈ wsX10_init := by decide +kernel
noncomputable abbrev wX10 (cy : Nat → ClassId) (h0 : Nat) (u : Nat → Nat) : va_W := [((u 0), .inl (cy 0, 8, .inl (upd (upd (upd (upd (upd (upd (upd (upd (fun _ => 0) 0 500) 1 500) 2 500) 3 500) 4 500) 5 500) 6 500) 7 500))), ((u 1), .inl (cy 0, 8, .inl (upd (upd (upd (upd (upd (upd (upd (upd (fun _ => 0) 0 14) 1 13) 2 12) 3 11) 4 10) 5 9) 6 8) 7 7))), (h0, .inr (10, [.int 12, .int 12, .ref (u 29), .ref (u 1), .ref (u 0), .ref (u 28), .ref (u 27), .ref (u 26), .int 0, .ref (u 25), .ref (u 24), .ref (u 23), .ref (u 22), .ref (u 21), .ref (u 20), .ref (u 19), .ref (u 18), .ref (u 17), .ref (u 16), .ref (u 15), .ref (u 14), .ref (u 13), .ref (u 12), .int 0, .ref (u 11), .ref (u 10), .ref (u 9), .ref (u 8), .int 0, .int 0, .int 0, .int 0, .int 0, .int 0, .int 0, .ref (u 7), .ref (u 6), .ref (u 5), .ref (u 4), .int 0, .int 0, .ref (u 3), .ref (u 2)]))] ++ ([((u 2), .inl (cy 1, 8, .inl (fun _ => 0)))] ++ ([((u 3), .inl (cy 0, 576, .inl (fun _ => 0)))] ++ ([((u 4), .inl (cy 0, 4608, .inl (fun _ => 0)))] ++ ([((u 5), .inl (cy 0, 4608, .inl (fun _ => 0)))] ++ ([((u 6), .inl (cy 0, 4608, .inl (fun _ => 0)))] ++ ([((u 7), .inl (cy 0, 4608, .inl (fun _ => 0)))] ++ ([((u 8), .inl (cy 0, 6, .inl (fun _ => 0)))] ++ ([((u 9), .inl (cy 0, 4, .inl (fun _ => 0)))] ++ ([((u 10), .inl (cy 0, 4, .inl (fun _ => 0)))] ++ ([((u 11), .inl (cy 0, 4, .inl (fun _ => 0)))] ++ ([((u 12), .inl (cy 1, 488, .inl (fun _ => 0)))] ++ ([((u 13), .inl (cy 0, 488, .inl (fun _ => 0)))] ++ ([((u 14), .inl (cy 0, 488, .inl (fun _ => 0)))] ++ ([((u 15), .inl (cy 0, 8, .inl (fun _ => 0)))] ++ ([((u 16), .inl (cy 0, 8, .inl (fun _ => 0)))] ++ ([((u 17), .inl (cy 1, 8, .inl (fun _ => 0)))] ++ ([((u 18), .inl (cy 0, 8, .inl (fun _ => 0)))] ++ ([((u 19), .inl (cy 0, 8, .inl (fun _ => 0)))] ++ ([((u 20), .inl (cy 0, 8, .inl (fun _ => 0)))] ++ ([((u 21), .inl (cy 0, 8, .inl (fun _ => 0)))] ++ ([((u 22), .inl (cy 0, 8, .inl (fun _ => 0)))] ++ ([((u 23), .inl (cy 0, 8, .inl (fun _ => 0)))] ++ ([((u 24), .inl (cy 0, 8, .inl (fun _ => 0)))] ++ ([((u 25), .inl (cy 0, 8, .inl (fun _ => 0)))] ++ ([((u 26), .inl (cy 0, 384, .inl (fun _ => 0)))] ++ ([((u 27), .inl (cy 0, 384, .inl (fun _ => 0)))] ++ ([((u 28), .inl (cy 0, 24, .inl (fun _ => 0)))] ++ ([((u 29), .inl (cy 0, 576, .inl (fun _ => 0)))] ++ []))))))))))))))))))))))))))))
set_option maxRecDepth 100000 in
set_option maxHeartbeats 16000000 in
theorem n_X10 (l : Launch) (D : va_G) (cy : Nat → ClassId) (h0 : Nat) (sz : Nat) : Kn l yX10_init wsX10_init 1 30 21970 D cy sz [(h0, .inr (10, [.int 0, .int 0, .null, .null, .null, .null, .null, .null, .int 0, .null, .null, .null, .null, .null, .null, .null, .null, .null, .null, .null, .null, .null, .null, .int 0, .null, .null, .null, .null, .int 0, .int 0, .int 0, .int 0, .int 0, .int 0, .int 0, .null, .null, .null, .null, .int 0, .int 0, .null, .null]))] (wX10 cy h0) [.ref h0] := by
  refine r_nstart (by decide) rfl rfl [.ref h0] (Nat.le_of_ble_eq_true rfl) ?_
  intro p e s m below meth c A S hr hlocks hin hCn hA hP hD ls hl
  have hl : lv_has ls 2 [(0, .ref h0)] := hl
  obtain ⟨hx, hb, hml, hown, hts⟩ := id S
  have hS : va_S A s.heap s.heap [] := va_S.rf
  obtain ⟨fs0, hfs0⟩ : ∃ f : List Value, f = [.int 0, .int 0, .null, .null, .null, .null, .null, .null, .int 0, .null, .null, .null, .null, .null, .null, .null, .null, .null, .null, .null, .null, .null, .null, .int 0, .null, .null, .null, .null, .int 0, .int 0, .int 0, .int 0, .int 0, .int 0, .int 0, .null, .null, .null, .null, .int 0, .int 0, .null, .null] := ⟨_, rfl⟩
  have hlen0 : fs0.length = 43 := by rw [hfs0]; rfl
  rw [← hfs0] at hP hD
  obtain ⟨T0, hT0⟩ : ∃ T : va_W, T = [] := ⟨_, rfl⟩
  have hP : va_P D vwCl (([(h0, .inr (10, fs0))]) ++ T0) s.heap := by rw [hT0]; exact hP
  have hD : va_D A (([(h0, .inr (10, fs0))]) ++ T0) := by rw [hT0]; exact hD
  refine lv_aload_n hx hb dX10_init_0 rfl (lv_at hl 0 rfl) ?_
  refine W.objInit hx hb hown (hts _ moi_X10_init) (hts _ mom_X10_init) (hts _ moc_X10_init) rfl (by rw [hml]; exact hl.1) rfl dX10_init_1 (Nat.le_of_ble_eq_true rfl) (Nat.le_of_ble_eq_true rfl) ?_
  refine W.eq (g2 := F0 m 4 ls []) rfl ?_
  refine lv_aload_n hx hb dX10_init_4 rfl (lv_at hl 0 rfl) ?_
  refine lv_bipush (v := 12) hx hb dX10_init_5 (by decide) ?_
  refine va_put (D := D) (ci := 10) (v := .int 12) (ty := .int) (C := RX10) (T := TX10) (N := 43) (fs := fs0) hx hb hts iw10_X10_init tyX10 tyX10_ok nmX10 hown hCn.1 hP hD hS 0 rfl rfl 0 (by decide) (hts _ mf7_X10_init) (fun _ h9 => h9) rfl (by decide +kernel) rfl rfl (by rw [hlen0]; decide) dX10_init_7 (fun H locs hP hD hS => ?_)
  have hP : va_P D vwCl (([(h0, .inr (10, (fs0.set 0 (.int 12))))]) ++ T0) H := hP
  have hD : va_D A (([(h0, .inr (10, (fs0.set 0 (.int 12))))]) ++ T0) := hD
  obtain ⟨fs1, hfs1⟩ : ∃ f : List Value, f = [.int 12, .int 0, .null, .null, .null, .null, .null, .null, .int 0, .null, .null, .null, .null, .null, .null, .null, .null, .null, .null, .null, .null, .null, .null, .int 0, .null, .null, .null, .null, .int 0, .int 0, .int 0, .int 0, .int 0, .int 0, .int 0, .null, .null, .null, .null, .int 0, .int 0, .null, .null] := ⟨_, rfl⟩
  have he1 : fs0.set 0 (.int 12) = fs1 := by rw [hfs0, hfs1]; rfl
  rw [he1] at hP hD
  have hlen1 : fs1.length = 43 := by rw [hfs1]; rfl
  clear he1 hlen0 hfs0
  refine lv_aload_n hx hb dX10_init_10 rfl (lv_at hl 0 rfl) ?_
  refine lv_bipush (v := 12) hx hb dX10_init_11 (by decide) ?_
  refine va_put (D := D) (ci := 10) (v := .int 12) (ty := .int) (C := RX10) (T := TX10) (N := 43) (fs := fs1) hx hb hts iw10_X10_init tyX10 tyX10_ok nmX10 hown hCn.1 hP hD hS 0 rfl rfl 1 (by decide) (hts _ mf13_X10_init) (fun _ h9 => h9) rfl (by decide +kernel) rfl rfl (by rw [hlen1]; decide) dX10_init_13 (fun H locs hP hD hS => ?_)
  have hP : va_P D vwCl (([(h0, .inr (10, (fs1.set 1 (.int 12))))]) ++ T0) H := hP
  have hD : va_D A (([(h0, .inr (10, (fs1.set 1 (.int 12))))]) ++ T0) := hD
  obtain ⟨fs2, hfs2⟩ : ∃ f : List Value, f = [.int 12, .int 12, .null, .null, .null, .null, .null, .null, .int 0, .null, .null, .null, .null, .null, .null, .null, .null, .null, .null, .null, .null, .null, .null, .int 0, .null, .null, .null, .null, .int 0, .int 0, .int 0, .int 0, .int 0, .int 0, .int 0, .null, .null, .null, .null, .int 0, .int 0, .null, .null] := ⟨_, rfl⟩
  have he2 : fs1.set 1 (.int 12) = fs2 := by rw [hfs1, hfs2]; rfl
  rw [he2] at hP hD
  have hlen2 : fs2.length = 43 := by rw [hfs2]; rfl
  clear he2 hlen1 hfs1
  refine lv_aload_n hx hb dX10_init_16 rfl (lv_at hl 0 rfl) ?_
  refine lv_sipush (v := 576) hx hb dX10_init_17 (by decide) ?_
  refine r_newi (T := []) hx hb (hts _ maci_X10_init) hCn hP hD hS hA (N' := 576) (by decide) (by decide) (Nat.le_of_ble_eq_true rfl) (Nat.le_of_ble_eq_true rfl) (Nat.le_of_ble_eq_true rfl) dX10_init_20 (fun q0 H hP hD hS => ?_)
  replace hP := hP.perm va_mv
  replace hD := hD.perm va_mv
  have hP : va_P D vwCl (([(h0, .inr (10, fs2))]) ++ ([(q0, .inl (cy 0, 576, .inl (fun _ => 0)))] ++ T0)) H := hP
  have hD : va_D A (([(h0, .inr (10, fs2))]) ++ ([(q0, .inl (cy 0, 576, .inl (fun _ => 0)))] ++ T0)) := hD
  obtain ⟨T1, hT1⟩ : ∃ T, T = [(q0, .inl (cy 0, 576, .inl (fun _ => 0)))] ++ T0 := ⟨_, rfl⟩
  rw [← hT1] at hP hD
  refine va_putF (D := D) (ci := 10) (v := .ref q0) (ty := .array .int) (C := RX10) (T := TX10) (N := 43) (fs := fs2) hx hb hts iw10_X10_init tyX10 tyX10_ok nmX10 hown hCn.1 hP hD hS 0 rfl rfl 2 (by decide) (hts _ mf16_X10_init) (fun _ h9 => h9) rfl hin rfl (by decide +kernel) rfl rfl (by rw [hlen2]; decide) dX10_init_22 (fun H locs hP hD hS => ?_)
  have hP : va_P D vwCl (([(h0, .inr (10, (fs2.set 2 (.ref q0))))]) ++ T1) H := hP
  have hD : va_D A (([(h0, .inr (10, (fs2.set 2 (.ref q0))))]) ++ T1) := hD
  obtain ⟨fs3, hfs3⟩ : ∃ f : List Value, f = [.int 12, .int 12, .ref q0, .null, .null, .null, .null, .null, .int 0, .null, .null, .null, .null, .null, .null, .null, .null, .null, .null, .null, .null, .null, .null, .int 0, .null, .null, .null, .null, .int 0, .int 0, .int 0, .int 0, .int 0, .int 0, .int 0, .null, .null, .null, .null, .int 0, .int 0, .null, .null] := ⟨_, rfl⟩
  have he3 : fs2.set 2 (.ref q0) = fs3 := by rw [hfs2, hfs3]; rfl
  rw [he3] at hP hD
  have hlen3 : fs3.length = 43 := by rw [hfs3]; rfl
  clear he3 hlen2 hfs2
  refine lv_aload_n hx hb dX10_init_25 rfl (lv_at hl 0 rfl) ?_
  refine lv_bipush (v := 8) hx hb dX10_init_26 (by decide) ?_
  refine r_newi (T := []) hx hb (hts _ maci_X10_init) hCn hP hD hS hA (N' := 8) (by decide) (by decide) (Nat.le_of_ble_eq_true rfl) (Nat.le_of_ble_eq_true rfl) (Nat.le_of_ble_eq_true rfl) dX10_init_28 (fun q1 H hP hD hS => ?_)
  replace hP := hP.perm va_nw
  replace hD := hD.perm va_nw
  have hP : va_P D vwCl (([(q1, .inl (cy 0, 8, .inl (fun _ => 0))), (h0, .inr (10, fs3))]) ++ T1) H := hP
  have hD : va_D A (([(q1, .inl (cy 0, 8, .inl (fun _ => 0))), (h0, .inr (10, fs3))]) ++ T1) := hD
  refine va_putF (D := D) (ci := 10) (v := .ref q1) (ty := .array .int) (C := RX10) (T := TX10) (N := 43) (fs := fs3) hx hb hts iw10_X10_init tyX10 tyX10_ok nmX10 hown hCn.1 hP hD hS 1 rfl rfl 3 (by decide) (hts _ mf20_X10_init) (fun _ h9 => h9) rfl hin rfl (by decide +kernel) rfl rfl (by rw [hlen3]; decide) dX10_init_30 (fun H locs hP hD hS => ?_)
  have hP : va_P D vwCl (([(q1, .inl (cy 0, 8, .inl (fun _ => 0))), (h0, .inr (10, (fs3.set 3 (.ref q1))))]) ++ T1) H := hP
  have hD : va_D A (([(q1, .inl (cy 0, 8, .inl (fun _ => 0))), (h0, .inr (10, (fs3.set 3 (.ref q1))))]) ++ T1) := hD
  obtain ⟨fs4, hfs4⟩ : ∃ f : List Value, f = [.int 12, .int 12, .ref q0, .ref q1, .null, .null, .null, .null, .int 0, .null, .null, .null, .null, .null, .null, .null, .null, .null, .null, .null, .null, .null, .null, .int 0, .null, .null, .null, .null, .int 0, .int 0, .int 0, .int 0, .int 0, .int 0, .int 0, .null, .null, .null, .null, .int 0, .int 0, .null, .null] := ⟨_, rfl⟩
  have he4 : fs3.set 3 (.ref q1) = fs4 := by rw [hfs3, hfs4]; rfl
  rw [he4] at hP hD
  have hlen4 : fs4.length = 43 := by rw [hfs4]; rfl
  clear he4 hlen3 hfs3
  refine lv_aload_n hx hb dX10_init_33 rfl (lv_at hl 0 rfl) ?_
  refine lv_bipush (v := 8) hx hb dX10_init_34 (by decide) ?_
  refine r_newi (T := []) hx hb (hts _ maci_X10_init) hCn hP hD hS hA (N' := 8) (by decide) (by decide) (Nat.le_of_ble_eq_true rfl) (Nat.le_of_ble_eq_true rfl) (Nat.le_of_ble_eq_true rfl) dX10_init_36 (fun q2 H hP hD hS => ?_)
  replace hP := hP.perm va_nw
  replace hD := hD.perm va_nw
  have hP : va_P D vwCl (([(q2, .inl (cy 0, 8, .inl (fun _ => 0))), (q1, .inl (cy 0, 8, .inl (fun _ => 0))), (h0, .inr (10, fs4))]) ++ T1) H := hP
  have hD : va_D A (([(q2, .inl (cy 0, 8, .inl (fun _ => 0))), (q1, .inl (cy 0, 8, .inl (fun _ => 0))), (h0, .inr (10, fs4))]) ++ T1) := hD
  refine va_putF (D := D) (ci := 10) (v := .ref q2) (ty := .array .int) (C := RX10) (T := TX10) (N := 43) (fs := fs4) hx hb hts iw10_X10_init tyX10 tyX10_ok nmX10 hown hCn.1 hP hD hS 2 rfl rfl 4 (by decide) (hts _ mf23_X10_init) (fun _ h9 => h9) rfl hin rfl (by decide +kernel) rfl rfl (by rw [hlen4]; decide) dX10_init_38 (fun H locs hP hD hS => ?_)
  have hP : va_P D vwCl (([(q2, .inl (cy 0, 8, .inl (fun _ => 0))), (q1, .inl (cy 0, 8, .inl (fun _ => 0))), (h0, .inr (10, (fs4.set 4 (.ref q2))))]) ++ T1) H := hP
  have hD : va_D A (([(q2, .inl (cy 0, 8, .inl (fun _ => 0))), (q1, .inl (cy 0, 8, .inl (fun _ => 0))), (h0, .inr (10, (fs4.set 4 (.ref q2))))]) ++ T1) := hD
  obtain ⟨fs5, hfs5⟩ : ∃ f : List Value, f = [.int 12, .int 12, .ref q0, .ref q1, .ref q2, .null, .null, .null, .int 0, .null, .null, .null, .null, .null, .null, .null, .null, .null, .null, .null, .null, .null, .null, .int 0, .null, .null, .null, .null, .int 0, .int 0, .int 0, .int 0, .int 0, .int 0, .int 0, .null, .null, .null, .null, .int 0, .int 0, .null, .null] := ⟨_, rfl⟩
  have he5 : fs4.set 4 (.ref q2) = fs5 := by rw [hfs4, hfs5]; rfl
  rw [he5] at hP hD
  have hlen5 : fs5.length = 43 := by rw [hfs5]; rfl
  clear he5 hlen4 hfs4
  refine lv_aload_n hx hb dX10_init_41 rfl (lv_at hl 0 rfl) ?_
  refine lv_bipush (v := 24) hx hb dX10_init_42 (by decide) ?_
  refine r_newi (T := []) hx hb (hts _ maci_X10_init) hCn hP hD hS hA (N' := 24) (by decide) (by decide) (Nat.le_of_ble_eq_true rfl) (Nat.le_of_ble_eq_true rfl) (Nat.le_of_ble_eq_true rfl) dX10_init_44 (fun q3 H hP hD hS => ?_)
  replace hP := hP.perm va_mv
  replace hD := hD.perm va_mv
  have hP : va_P D vwCl (([(q2, .inl (cy 0, 8, .inl (fun _ => 0))), (q1, .inl (cy 0, 8, .inl (fun _ => 0))), (h0, .inr (10, fs5))]) ++ ([(q3, .inl (cy 0, 24, .inl (fun _ => 0)))] ++ T1)) H := hP
  have hD : va_D A (([(q2, .inl (cy 0, 8, .inl (fun _ => 0))), (q1, .inl (cy 0, 8, .inl (fun _ => 0))), (h0, .inr (10, fs5))]) ++ ([(q3, .inl (cy 0, 24, .inl (fun _ => 0)))] ++ T1)) := hD
  obtain ⟨T2, hT2⟩ : ∃ T, T = [(q3, .inl (cy 0, 24, .inl (fun _ => 0)))] ++ T1 := ⟨_, rfl⟩
  rw [← hT2] at hP hD
  refine va_putF (D := D) (ci := 10) (v := .ref q3) (ty := .array .int) (C := RX10) (T := TX10) (N := 43) (fs := fs5) hx hb hts iw10_X10_init tyX10 tyX10_ok nmX10 hown hCn.1 hP hD hS 2 rfl rfl 5 (by decide) (hts _ mf26_X10_init) (fun _ h9 => h9) rfl hin rfl (by decide +kernel) rfl rfl (by rw [hlen5]; decide) dX10_init_46 (fun H locs hP hD hS => ?_)
  have hP : va_P D vwCl (([(q2, .inl (cy 0, 8, .inl (fun _ => 0))), (q1, .inl (cy 0, 8, .inl (fun _ => 0))), (h0, .inr (10, (fs5.set 5 (.ref q3))))]) ++ T2) H := hP
  have hD : va_D A (([(q2, .inl (cy 0, 8, .inl (fun _ => 0))), (q1, .inl (cy 0, 8, .inl (fun _ => 0))), (h0, .inr (10, (fs5.set 5 (.ref q3))))]) ++ T2) := hD
  obtain ⟨fs6, hfs6⟩ : ∃ f : List Value, f = [.int 12, .int 12, .ref q0, .ref q1, .ref q2, .ref q3, .null, .null, .int 0, .null, .null, .null, .null, .null, .null, .null, .null, .null, .null, .null, .null, .null, .null, .int 0, .null, .null, .null, .null, .int 0, .int 0, .int 0, .int 0, .int 0, .int 0, .int 0, .null, .null, .null, .null, .int 0, .int 0, .null, .null] := ⟨_, rfl⟩
  have he6 : fs5.set 5 (.ref q3) = fs6 := by rw [hfs5, hfs6]; rfl
  rw [he6] at hP hD
  have hlen6 : fs6.length = 43 := by rw [hfs6]; rfl
  clear he6 hlen5 hfs5
  refine lv_aload_n hx hb dX10_init_49 rfl (lv_at hl 0 rfl) ?_
  refine lv_sipush (v := 384) hx hb dX10_init_50 (by decide) ?_
  refine r_newi (T := []) hx hb (hts _ maci_X10_init) hCn hP hD hS hA (N' := 384) (by decide) (by decide) (Nat.le_of_ble_eq_true rfl) (Nat.le_of_ble_eq_true rfl) (Nat.le_of_ble_eq_true rfl) dX10_init_53 (fun q4 H hP hD hS => ?_)
  replace hP := hP.perm va_mv
  replace hD := hD.perm va_mv
  have hP : va_P D vwCl (([(q2, .inl (cy 0, 8, .inl (fun _ => 0))), (q1, .inl (cy 0, 8, .inl (fun _ => 0))), (h0, .inr (10, fs6))]) ++ ([(q4, .inl (cy 0, 384, .inl (fun _ => 0)))] ++ T2)) H := hP
  have hD : va_D A (([(q2, .inl (cy 0, 8, .inl (fun _ => 0))), (q1, .inl (cy 0, 8, .inl (fun _ => 0))), (h0, .inr (10, fs6))]) ++ ([(q4, .inl (cy 0, 384, .inl (fun _ => 0)))] ++ T2)) := hD
  obtain ⟨T3, hT3⟩ : ∃ T, T = [(q4, .inl (cy 0, 384, .inl (fun _ => 0)))] ++ T2 := ⟨_, rfl⟩
  rw [← hT3] at hP hD
  refine va_putF (D := D) (ci := 10) (v := .ref q4) (ty := .array .int) (C := RX10) (T := TX10) (N := 43) (fs := fs6) hx hb hts iw10_X10_init tyX10 tyX10_ok nmX10 hown hCn.1 hP hD hS 2 rfl rfl 6 (by decide) (hts _ mf29_X10_init) (fun _ h9 => h9) rfl hin rfl (by decide +kernel) rfl rfl (by rw [hlen6]; decide) dX10_init_55 (fun H locs hP hD hS => ?_)
  have hP : va_P D vwCl (([(q2, .inl (cy 0, 8, .inl (fun _ => 0))), (q1, .inl (cy 0, 8, .inl (fun _ => 0))), (h0, .inr (10, (fs6.set 6 (.ref q4))))]) ++ T3) H := hP
  have hD : va_D A (([(q2, .inl (cy 0, 8, .inl (fun _ => 0))), (q1, .inl (cy 0, 8, .inl (fun _ => 0))), (h0, .inr (10, (fs6.set 6 (.ref q4))))]) ++ T3) := hD
  obtain ⟨fs7, hfs7⟩ : ∃ f : List Value, f = [.int 12, .int 12, .ref q0, .ref q1, .ref q2, .ref q3, .ref q4, .null, .int 0, .null, .null, .null, .null, .null, .null, .null, .null, .null, .null, .null, .null, .null, .null, .int 0, .null, .null, .null, .null, .int 0, .int 0, .int 0, .int 0, .int 0, .int 0, .int 0, .null, .null, .null, .null, .int 0, .int 0, .null, .null] := ⟨_, rfl⟩
  have he7 : fs6.set 6 (.ref q4) = fs7 := by rw [hfs6, hfs7]; rfl
  rw [he7] at hP hD
  have hlen7 : fs7.length = 43 := by rw [hfs7]; rfl
  clear he7 hlen6 hfs6
  refine lv_aload_n hx hb dX10_init_58 rfl (lv_at hl 0 rfl) ?_
  refine lv_sipush (v := 384) hx hb dX10_init_59 (by decide) ?_
  refine r_newi (T := []) hx hb (hts _ maci_X10_init) hCn hP hD hS hA (N' := 384) (by decide) (by decide) (Nat.le_of_ble_eq_true rfl) (Nat.le_of_ble_eq_true rfl) (Nat.le_of_ble_eq_true rfl) dX10_init_62 (fun q5 H hP hD hS => ?_)
  replace hP := hP.perm va_mv
  replace hD := hD.perm va_mv
  have hP : va_P D vwCl (([(q2, .inl (cy 0, 8, .inl (fun _ => 0))), (q1, .inl (cy 0, 8, .inl (fun _ => 0))), (h0, .inr (10, fs7))]) ++ ([(q5, .inl (cy 0, 384, .inl (fun _ => 0)))] ++ T3)) H := hP
  have hD : va_D A (([(q2, .inl (cy 0, 8, .inl (fun _ => 0))), (q1, .inl (cy 0, 8, .inl (fun _ => 0))), (h0, .inr (10, fs7))]) ++ ([(q5, .inl (cy 0, 384, .inl (fun _ => 0)))] ++ T3)) := hD
  obtain ⟨T4, hT4⟩ : ∃ T, T = [(q5, .inl (cy 0, 384, .inl (fun _ => 0)))] ++ T3 := ⟨_, rfl⟩
  rw [← hT4] at hP hD
  refine va_putF (D := D) (ci := 10) (v := .ref q5) (ty := .array .int) (C := RX10) (T := TX10) (N := 43) (fs := fs7) hx hb hts iw10_X10_init tyX10 tyX10_ok nmX10 hown hCn.1 hP hD hS 2 rfl rfl 7 (by decide) (hts _ mf32_X10_init) (fun _ h9 => h9) rfl hin rfl (by decide +kernel) rfl rfl (by rw [hlen7]; decide) dX10_init_64 (fun H locs hP hD hS => ?_)
  have hP : va_P D vwCl (([(q2, .inl (cy 0, 8, .inl (fun _ => 0))), (q1, .inl (cy 0, 8, .inl (fun _ => 0))), (h0, .inr (10, (fs7.set 7 (.ref q5))))]) ++ T4) H := hP
  have hD : va_D A (([(q2, .inl (cy 0, 8, .inl (fun _ => 0))), (q1, .inl (cy 0, 8, .inl (fun _ => 0))), (h0, .inr (10, (fs7.set 7 (.ref q5))))]) ++ T4) := hD
  obtain ⟨fs8, hfs8⟩ : ∃ f : List Value, f = [.int 12, .int 12, .ref q0, .ref q1, .ref q2, .ref q3, .ref q4, .ref q5, .int 0, .null, .null, .null, .null, .null, .null, .null, .null, .null, .null, .null, .null, .null, .null, .int 0, .null, .null, .null, .null, .int 0, .int 0, .int 0, .int 0, .int 0, .int 0, .int 0, .null, .null, .null, .null, .int 0, .int 0, .null, .null] := ⟨_, rfl⟩
  have he8 : fs7.set 7 (.ref q5) = fs8 := by rw [hfs7, hfs8]; rfl
  rw [he8] at hP hD
  have hlen8 : fs8.length = 43 := by rw [hfs8]; rfl
  clear he8 hlen7 hfs7
  refine lv_aload_n hx hb dX10_init_67 rfl (lv_at hl 0 rfl) ?_
  refine lv_bipush (v := 8) hx hb dX10_init_68 (by decide) ?_
  refine r_newi (T := []) hx hb (hts _ maci_X10_init) hCn hP hD hS hA (N' := 8) (by decide) (by decide) (Nat.le_of_ble_eq_true rfl) (Nat.le_of_ble_eq_true rfl) (Nat.le_of_ble_eq_true rfl) dX10_init_70 (fun q6 H hP hD hS => ?_)
  replace hP := hP.perm va_mv
  replace hD := hD.perm va_mv
  have hP : va_P D vwCl (([(q2, .inl (cy 0, 8, .inl (fun _ => 0))), (q1, .inl (cy 0, 8, .inl (fun _ => 0))), (h0, .inr (10, fs8))]) ++ ([(q6, .inl (cy 0, 8, .inl (fun _ => 0)))] ++ T4)) H := hP
  have hD : va_D A (([(q2, .inl (cy 0, 8, .inl (fun _ => 0))), (q1, .inl (cy 0, 8, .inl (fun _ => 0))), (h0, .inr (10, fs8))]) ++ ([(q6, .inl (cy 0, 8, .inl (fun _ => 0)))] ++ T4)) := hD
  obtain ⟨T5, hT5⟩ : ∃ T, T = [(q6, .inl (cy 0, 8, .inl (fun _ => 0)))] ++ T4 := ⟨_, rfl⟩
  rw [← hT5] at hP hD
  refine va_putF (D := D) (ci := 10) (v := .ref q6) (ty := .array .int) (C := RX10) (T := TX10) (N := 43) (fs := fs8) hx hb hts iw10_X10_init tyX10 tyX10_ok nmX10 hown hCn.1 hP hD hS 2 rfl rfl 9 (by decide) (hts _ mf35_X10_init) (fun _ h9 => h9) rfl hin rfl (by decide +kernel) rfl rfl (by rw [hlen8]; decide) dX10_init_72 (fun H locs hP hD hS => ?_)
  have hP : va_P D vwCl (([(q2, .inl (cy 0, 8, .inl (fun _ => 0))), (q1, .inl (cy 0, 8, .inl (fun _ => 0))), (h0, .inr (10, (fs8.set 9 (.ref q6))))]) ++ T5) H := hP
  have hD : va_D A (([(q2, .inl (cy 0, 8, .inl (fun _ => 0))), (q1, .inl (cy 0, 8, .inl (fun _ => 0))), (h0, .inr (10, (fs8.set 9 (.ref q6))))]) ++ T5) := hD
  obtain ⟨fs9, hfs9⟩ : ∃ f : List Value, f = [.int 12, .int 12, .ref q0, .ref q1, .ref q2, .ref q3, .ref q4, .ref q5, .int 0, .ref q6, .null, .null, .null, .null, .null, .null, .null, .null, .null, .null, .null, .null, .null, .int 0, .null, .null, .null, .null, .int 0, .int 0, .int 0, .int 0, .int 0, .int 0, .int 0, .null, .null, .null, .null, .int 0, .int 0, .null, .null] := ⟨_, rfl⟩
  have he9 : fs8.set 9 (.ref q6) = fs9 := by rw [hfs8, hfs9]; rfl
  rw [he9] at hP hD
  have hlen9 : fs9.length = 43 := by rw [hfs9]; rfl
  clear he9 hlen8 hfs8
  refine lv_aload_n hx hb dX10_init_75 rfl (lv_at hl 0 rfl) ?_
  refine lv_bipush (v := 8) hx hb dX10_init_76 (by decide) ?_
  refine r_newi (T := []) hx hb (hts _ maci_X10_init) hCn hP hD hS hA (N' := 8) (by decide) (by decide) (Nat.le_of_ble_eq_true rfl) (Nat.le_of_ble_eq_true rfl) (Nat.le_of_ble_eq_true rfl) dX10_init_78 (fun q7 H hP hD hS => ?_)
  replace hP := hP.perm va_mv
  replace hD := hD.perm va_mv
  have hP : va_P D vwCl (([(q2, .inl (cy 0, 8, .inl (fun _ => 0))), (q1, .inl (cy 0, 8, .inl (fun _ => 0))), (h0, .inr (10, fs9))]) ++ ([(q7, .inl (cy 0, 8, .inl (fun _ => 0)))] ++ T5)) H := hP
  have hD : va_D A (([(q2, .inl (cy 0, 8, .inl (fun _ => 0))), (q1, .inl (cy 0, 8, .inl (fun _ => 0))), (h0, .inr (10, fs9))]) ++ ([(q7, .inl (cy 0, 8, .inl (fun _ => 0)))] ++ T5)) := hD
  obtain ⟨T6, hT6⟩ : ∃ T, T = [(q7, .inl (cy 0, 8, .inl (fun _ => 0)))] ++ T5 := ⟨_, rfl⟩
  rw [← hT6] at hP hD
  refine va_putF (D := D) (ci := 10) (v := .ref q7) (ty := .array .int) (C := RX10) (T := TX10) (N := 43) (fs := fs9) hx hb hts iw10_X10_init tyX10 tyX10_ok nmX10 hown hCn.1 hP hD hS 2 rfl rfl 10 (by decide) (hts _ mf38_X10_init) (fun _ h9 => h9) rfl hin rfl (by decide +kernel) rfl rfl (by rw [hlen9]; decide) dX10_init_80 (fun H locs hP hD hS => ?_)
  have hP : va_P D vwCl (([(q2, .inl (cy 0, 8, .inl (fun _ => 0))), (q1, .inl (cy 0, 8, .inl (fun _ => 0))), (h0, .inr (10, (fs9.set 10 (.ref q7))))]) ++ T6) H := hP
  have hD : va_D A (([(q2, .inl (cy 0, 8, .inl (fun _ => 0))), (q1, .inl (cy 0, 8, .inl (fun _ => 0))), (h0, .inr (10, (fs9.set 10 (.ref q7))))]) ++ T6) := hD
  obtain ⟨fs10, hfs10⟩ : ∃ f : List Value, f = [.int 12, .int 12, .ref q0, .ref q1, .ref q2, .ref q3, .ref q4, .ref q5, .int 0, .ref q6, .ref q7, .null, .null, .null, .null, .null, .null, .null, .null, .null, .null, .null, .null, .int 0, .null, .null, .null, .null, .int 0, .int 0, .int 0, .int 0, .int 0, .int 0, .int 0, .null, .null, .null, .null, .int 0, .int 0, .null, .null] := ⟨_, rfl⟩
  have he10 : fs9.set 10 (.ref q7) = fs10 := by rw [hfs9, hfs10]; rfl
  rw [he10] at hP hD
  have hlen10 : fs10.length = 43 := by rw [hfs10]; rfl
  clear he10 hlen9 hfs9
  refine lv_aload_n hx hb dX10_init_83 rfl (lv_at hl 0 rfl) ?_
  refine lv_bipush (v := 8) hx hb dX10_init_84 (by decide) ?_
  refine r_newi (T := []) hx hb (hts _ maci_X10_init) hCn hP hD hS hA (N' := 8) (by decide) (by decide) (Nat.le_of_ble_eq_true rfl) (Nat.le_of_ble_eq_true rfl) (Nat.le_of_ble_eq_true rfl) dX10_init_86 (fun q8 H hP hD hS => ?_)
  replace hP := hP.perm va_mv
  replace hD := hD.perm va_mv
  have hP : va_P D vwCl (([(q2, .inl (cy 0, 8, .inl (fun _ => 0))), (q1, .inl (cy 0, 8, .inl (fun _ => 0))), (h0, .inr (10, fs10))]) ++ ([(q8, .inl (cy 0, 8, .inl (fun _ => 0)))] ++ T6)) H := hP
  have hD : va_D A (([(q2, .inl (cy 0, 8, .inl (fun _ => 0))), (q1, .inl (cy 0, 8, .inl (fun _ => 0))), (h0, .inr (10, fs10))]) ++ ([(q8, .inl (cy 0, 8, .inl (fun _ => 0)))] ++ T6)) := hD
  obtain ⟨T7, hT7⟩ : ∃ T, T = [(q8, .inl (cy 0, 8, .inl (fun _ => 0)))] ++ T6 := ⟨_, rfl⟩
  rw [← hT7] at hP hD
  refine va_putF (D := D) (ci := 10) (v := .ref q8) (ty := .array .int) (C := RX10) (T := TX10) (N := 43) (fs := fs10) hx hb hts iw10_X10_init tyX10 tyX10_ok nmX10 hown hCn.1 hP hD hS 2 rfl rfl 11 (by decide) (hts _ mf41_X10_init) (fun _ h9 => h9) rfl hin rfl (by decide +kernel) rfl rfl (by rw [hlen10]; decide) dX10_init_88 (fun H locs hP hD hS => ?_)
  have hP : va_P D vwCl (([(q2, .inl (cy 0, 8, .inl (fun _ => 0))), (q1, .inl (cy 0, 8, .inl (fun _ => 0))), (h0, .inr (10, (fs10.set 11 (.ref q8))))]) ++ T7) H := hP
  have hD : va_D A (([(q2, .inl (cy 0, 8, .inl (fun _ => 0))), (q1, .inl (cy 0, 8, .inl (fun _ => 0))), (h0, .inr (10, (fs10.set 11 (.ref q8))))]) ++ T7) := hD
  obtain ⟨fs11, hfs11⟩ : ∃ f : List Value, f = [.int 12, .int 12, .ref q0, .ref q1, .ref q2, .ref q3, .ref q4, .ref q5, .int 0, .ref q6, .ref q7, .ref q8, .null, .null, .null, .null, .null, .null, .null, .null, .null, .null, .null, .int 0, .null, .null, .null, .null, .int 0, .int 0, .int 0, .int 0, .int 0, .int 0, .int 0, .null, .null, .null, .null, .int 0, .int 0, .null, .null] := ⟨_, rfl⟩
  have he11 : fs10.set 11 (.ref q8) = fs11 := by rw [hfs10, hfs11]; rfl
  rw [he11] at hP hD
  have hlen11 : fs11.length = 43 := by rw [hfs11]; rfl
  clear he11 hlen10 hfs10
  refine lv_aload_n hx hb dX10_init_91 rfl (lv_at hl 0 rfl) ?_
  refine lv_bipush (v := 8) hx hb dX10_init_92 (by decide) ?_
  refine r_newi (T := []) hx hb (hts _ maci_X10_init) hCn hP hD hS hA (N' := 8) (by decide) (by decide) (Nat.le_of_ble_eq_true rfl) (Nat.le_of_ble_eq_true rfl) (Nat.le_of_ble_eq_true rfl) dX10_init_94 (fun q9 H hP hD hS => ?_)
  replace hP := hP.perm va_mv
  replace hD := hD.perm va_mv
  have hP : va_P D vwCl (([(q2, .inl (cy 0, 8, .inl (fun _ => 0))), (q1, .inl (cy 0, 8, .inl (fun _ => 0))), (h0, .inr (10, fs11))]) ++ ([(q9, .inl (cy 0, 8, .inl (fun _ => 0)))] ++ T7)) H := hP
  have hD : va_D A (([(q2, .inl (cy 0, 8, .inl (fun _ => 0))), (q1, .inl (cy 0, 8, .inl (fun _ => 0))), (h0, .inr (10, fs11))]) ++ ([(q9, .inl (cy 0, 8, .inl (fun _ => 0)))] ++ T7)) := hD
  obtain ⟨T8, hT8⟩ : ∃ T, T = [(q9, .inl (cy 0, 8, .inl (fun _ => 0)))] ++ T7 := ⟨_, rfl⟩
  rw [← hT8] at hP hD
  refine va_putF (D := D) (ci := 10) (v := .ref q9) (ty := .array .int) (C := RX10) (T := TX10) (N := 43) (fs := fs11) hx hb hts iw10_X10_init tyX10 tyX10_ok nmX10 hown hCn.1 hP hD hS 2 rfl rfl 12 (by decide) (hts _ mf44_X10_init) (fun _ h9 => h9) rfl hin rfl (by decide +kernel) rfl rfl (by rw [hlen11]; decide) dX10_init_96 (fun H locs hP hD hS => ?_)
  have hP : va_P D vwCl (([(q2, .inl (cy 0, 8, .inl (fun _ => 0))), (q1, .inl (cy 0, 8, .inl (fun _ => 0))), (h0, .inr (10, (fs11.set 12 (.ref q9))))]) ++ T8) H := hP
  have hD : va_D A (([(q2, .inl (cy 0, 8, .inl (fun _ => 0))), (q1, .inl (cy 0, 8, .inl (fun _ => 0))), (h0, .inr (10, (fs11.set 12 (.ref q9))))]) ++ T8) := hD
  obtain ⟨fs12, hfs12⟩ : ∃ f : List Value, f = [.int 12, .int 12, .ref q0, .ref q1, .ref q2, .ref q3, .ref q4, .ref q5, .int 0, .ref q6, .ref q7, .ref q8, .ref q9, .null, .null, .null, .null, .null, .null, .null, .null, .null, .null, .int 0, .null, .null, .null, .null, .int 0, .int 0, .int 0, .int 0, .int 0, .int 0, .int 0, .null, .null, .null, .null, .int 0, .int 0, .null, .null] := ⟨_, rfl⟩
  have he12 : fs11.set 12 (.ref q9) = fs12 := by rw [hfs11, hfs12]; rfl
  rw [he12] at hP hD
  have hlen12 : fs12.length = 43 := by rw [hfs12]; rfl
  clear he12 hlen11 hfs11
  refine lv_aload_n hx hb dX10_init_99 rfl (lv_at hl 0 rfl) ?_
  refine lv_bipush (v := 8) hx hb dX10_init_100 (by decide) ?_
  refine r_newi (T := []) hx hb (hts _ maci_X10_init) hCn hP hD hS hA (N' := 8) (by decide) (by decide) (Nat.le_of_ble_eq_true rfl) (Nat.le_of_ble_eq_true rfl) (Nat.le_of_ble_eq_true rfl) dX10_init_102 (fun q10 H hP hD hS => ?_)
  replace hP := hP.perm va_mv
  replace hD := hD.perm va_mv
  have hP : va_P D vwCl (([(q2, .inl (cy 0, 8, .inl (fun _ => 0))), (q1, .inl (cy 0, 8, .inl (fun _ => 0))), (h0, .inr (10, fs12))]) ++ ([(q10, .inl (cy 0, 8, .inl (fun _ => 0)))] ++ T8)) H := hP
  have hD : va_D A (([(q2, .inl (cy 0, 8, .inl (fun _ => 0))), (q1, .inl (cy 0, 8, .inl (fun _ => 0))), (h0, .inr (10, fs12))]) ++ ([(q10, .inl (cy 0, 8, .inl (fun _ => 0)))] ++ T8)) := hD
  obtain ⟨T9, hT9⟩ : ∃ T, T = [(q10, .inl (cy 0, 8, .inl (fun _ => 0)))] ++ T8 := ⟨_, rfl⟩
  rw [← hT9] at hP hD
  refine va_putF (D := D) (ci := 10) (v := .ref q10) (ty := .array .int) (C := RX10) (T := TX10) (N := 43) (fs := fs12) hx hb hts iw10_X10_init tyX10 tyX10_ok nmX10 hown hCn.1 hP hD hS 2 rfl rfl 13 (by decide) (hts _ mf47_X10_init) (fun _ h9 => h9) rfl hin rfl (by decide +kernel) rfl rfl (by rw [hlen12]; decide) dX10_init_104 (fun H locs hP hD hS => ?_)
  have hP : va_P D vwCl (([(q2, .inl (cy 0, 8, .inl (fun _ => 0))), (q1, .inl (cy 0, 8, .inl (fun _ => 0))), (h0, .inr (10, (fs12.set 13 (.ref q10))))]) ++ T9) H := hP
  have hD : va_D A (([(q2, .inl (cy 0, 8, .inl (fun _ => 0))), (q1, .inl (cy 0, 8, .inl (fun _ => 0))), (h0, .inr (10, (fs12.set 13 (.ref q10))))]) ++ T9) := hD
  obtain ⟨fs13, hfs13⟩ : ∃ f : List Value, f = [.int 12, .int 12, .ref q0, .ref q1, .ref q2, .ref q3, .ref q4, .ref q5, .int 0, .ref q6, .ref q7, .ref q8, .ref q9, .ref q10, .null, .null, .null, .null, .null, .null, .null, .null, .null, .int 0, .null, .null, .null, .null, .int 0, .int 0, .int 0, .int 0, .int 0, .int 0, .int 0, .null, .null, .null, .null, .int 0, .int 0, .null, .null] := ⟨_, rfl⟩
  have he13 : fs12.set 13 (.ref q10) = fs13 := by rw [hfs12, hfs13]; rfl
  rw [he13] at hP hD
  have hlen13 : fs13.length = 43 := by rw [hfs13]; rfl
  clear he13 hlen12 hfs12
  refine lv_aload_n hx hb dX10_init_107 rfl (lv_at hl 0 rfl) ?_
  refine lv_bipush (v := 8) hx hb dX10_init_108 (by decide) ?_
  refine r_newi (T := []) hx hb (hts _ maci_X10_init) hCn hP hD hS hA (N' := 8) (by decide) (by decide) (Nat.le_of_ble_eq_true rfl) (Nat.le_of_ble_eq_true rfl) (Nat.le_of_ble_eq_true rfl) dX10_init_110 (fun q11 H hP hD hS => ?_)
  replace hP := hP.perm va_mv
  replace hD := hD.perm va_mv
  have hP : va_P D vwCl (([(q2, .inl (cy 0, 8, .inl (fun _ => 0))), (q1, .inl (cy 0, 8, .inl (fun _ => 0))), (h0, .inr (10, fs13))]) ++ ([(q11, .inl (cy 0, 8, .inl (fun _ => 0)))] ++ T9)) H := hP
  have hD : va_D A (([(q2, .inl (cy 0, 8, .inl (fun _ => 0))), (q1, .inl (cy 0, 8, .inl (fun _ => 0))), (h0, .inr (10, fs13))]) ++ ([(q11, .inl (cy 0, 8, .inl (fun _ => 0)))] ++ T9)) := hD
  obtain ⟨T10, hT10⟩ : ∃ T, T = [(q11, .inl (cy 0, 8, .inl (fun _ => 0)))] ++ T9 := ⟨_, rfl⟩
  rw [← hT10] at hP hD
  refine va_putF (D := D) (ci := 10) (v := .ref q11) (ty := .array .int) (C := RX10) (T := TX10) (N := 43) (fs := fs13) hx hb hts iw10_X10_init tyX10 tyX10_ok nmX10 hown hCn.1 hP hD hS 2 rfl rfl 14 (by decide) (hts _ mf50_X10_init) (fun _ h9 => h9) rfl hin rfl (by decide +kernel) rfl rfl (by rw [hlen13]; decide) dX10_init_112 (fun H locs hP hD hS => ?_)
  have hP : va_P D vwCl (([(q2, .inl (cy 0, 8, .inl (fun _ => 0))), (q1, .inl (cy 0, 8, .inl (fun _ => 0))), (h0, .inr (10, (fs13.set 14 (.ref q11))))]) ++ T10) H := hP
  have hD : va_D A (([(q2, .inl (cy 0, 8, .inl (fun _ => 0))), (q1, .inl (cy 0, 8, .inl (fun _ => 0))), (h0, .inr (10, (fs13.set 14 (.ref q11))))]) ++ T10) := hD
  obtain ⟨fs14, hfs14⟩ : ∃ f : List Value, f = [.int 12, .int 12, .ref q0, .ref q1, .ref q2, .ref q3, .ref q4, .ref q5, .int 0, .ref q6, .ref q7, .ref q8, .ref q9, .ref q10, .ref q11, .null, .null, .null, .null, .null, .null, .null, .null, .int 0, .null, .null, .null, .null, .int 0, .int 0, .int 0, .int 0, .int 0, .int 0, .int 0, .null, .null, .null, .null, .int 0, .int 0, .null, .null] := ⟨_, rfl⟩
  have he14 : fs13.set 14 (.ref q11) = fs14 := by rw [hfs13, hfs14]; rfl
  rw [he14] at hP hD
  have hlen14 : fs14.length = 43 := by rw [hfs14]; rfl
  clear he14 hlen13 hfs13
  refine lv_aload_n hx hb dX10_init_115 rfl (lv_at hl 0 rfl) ?_
  refine lv_bipush (v := 8) hx hb dX10_init_116 (by decide) ?_
  refine r_newi (T := []) hx hb (hts _ maci_X10_init) hCn hP hD hS hA (N' := 8) (by decide) (by decide) (Nat.le_of_ble_eq_true rfl) (Nat.le_of_ble_eq_true rfl) (Nat.le_of_ble_eq_true rfl) dX10_init_118 (fun q12 H hP hD hS => ?_)
  replace hP := hP.perm va_mv
  replace hD := hD.perm va_mv
  have hP : va_P D vwCl (([(q2, .inl (cy 0, 8, .inl (fun _ => 0))), (q1, .inl (cy 0, 8, .inl (fun _ => 0))), (h0, .inr (10, fs14))]) ++ ([(q12, .inl (cy 0, 8, .inl (fun _ => 0)))] ++ T10)) H := hP
  have hD : va_D A (([(q2, .inl (cy 0, 8, .inl (fun _ => 0))), (q1, .inl (cy 0, 8, .inl (fun _ => 0))), (h0, .inr (10, fs14))]) ++ ([(q12, .inl (cy 0, 8, .inl (fun _ => 0)))] ++ T10)) := hD
  obtain ⟨T11, hT11⟩ : ∃ T, T = [(q12, .inl (cy 0, 8, .inl (fun _ => 0)))] ++ T10 := ⟨_, rfl⟩
  rw [← hT11] at hP hD
  refine va_putF (D := D) (ci := 10) (v := .ref q12) (ty := .array .int) (C := RX10) (T := TX10) (N := 43) (fs := fs14) hx hb hts iw10_X10_init tyX10 tyX10_ok nmX10 hown hCn.1 hP hD hS 2 rfl rfl 15 (by decide) (hts _ mf53_X10_init) (fun _ h9 => h9) rfl hin rfl (by decide +kernel) rfl rfl (by rw [hlen14]; decide) dX10_init_120 (fun H locs hP hD hS => ?_)
  have hP : va_P D vwCl (([(q2, .inl (cy 0, 8, .inl (fun _ => 0))), (q1, .inl (cy 0, 8, .inl (fun _ => 0))), (h0, .inr (10, (fs14.set 15 (.ref q12))))]) ++ T11) H := hP
  have hD : va_D A (([(q2, .inl (cy 0, 8, .inl (fun _ => 0))), (q1, .inl (cy 0, 8, .inl (fun _ => 0))), (h0, .inr (10, (fs14.set 15 (.ref q12))))]) ++ T11) := hD
  obtain ⟨fs15, hfs15⟩ : ∃ f : List Value, f = [.int 12, .int 12, .ref q0, .ref q1, .ref q2, .ref q3, .ref q4, .ref q5, .int 0, .ref q6, .ref q7, .ref q8, .ref q9, .ref q10, .ref q11, .ref q12, .null, .null, .null, .null, .null, .null, .null, .int 0, .null, .null, .null, .null, .int 0, .int 0, .int 0, .int 0, .int 0, .int 0, .int 0, .null, .null, .null, .null, .int 0, .int 0, .null, .null] := ⟨_, rfl⟩
  have he15 : fs14.set 15 (.ref q12) = fs15 := by rw [hfs14, hfs15]; rfl
  rw [he15] at hP hD
  have hlen15 : fs15.length = 43 := by rw [hfs15]; rfl
  clear he15 hlen14 hfs14
  refine lv_aload_n hx hb dX10_init_123 rfl (lv_at hl 0 rfl) ?_
  refine lv_bipush (v := 8) hx hb dX10_init_124 (by decide) ?_
  refine r_newi (T := []) hx hb (hts _ maci_X10_init) hCn hP hD hS hA (N' := 8) (by decide) (by decide) (Nat.le_of_ble_eq_true rfl) (Nat.le_of_ble_eq_true rfl) (Nat.le_of_ble_eq_true rfl) dX10_init_126 (fun q13 H hP hD hS => ?_)
  replace hP := hP.perm va_mv
  replace hD := hD.perm va_mv
  have hP : va_P D vwCl (([(q2, .inl (cy 0, 8, .inl (fun _ => 0))), (q1, .inl (cy 0, 8, .inl (fun _ => 0))), (h0, .inr (10, fs15))]) ++ ([(q13, .inl (cy 0, 8, .inl (fun _ => 0)))] ++ T11)) H := hP
  have hD : va_D A (([(q2, .inl (cy 0, 8, .inl (fun _ => 0))), (q1, .inl (cy 0, 8, .inl (fun _ => 0))), (h0, .inr (10, fs15))]) ++ ([(q13, .inl (cy 0, 8, .inl (fun _ => 0)))] ++ T11)) := hD
  obtain ⟨T12, hT12⟩ : ∃ T, T = [(q13, .inl (cy 0, 8, .inl (fun _ => 0)))] ++ T11 := ⟨_, rfl⟩
  rw [← hT12] at hP hD
  refine va_putF (D := D) (ci := 10) (v := .ref q13) (ty := .array .int) (C := RX10) (T := TX10) (N := 43) (fs := fs15) hx hb hts iw10_X10_init tyX10 tyX10_ok nmX10 hown hCn.1 hP hD hS 2 rfl rfl 16 (by decide) (hts _ mf56_X10_init) (fun _ h9 => h9) rfl hin rfl (by decide +kernel) rfl rfl (by rw [hlen15]; decide) dX10_init_128 (fun H locs hP hD hS => ?_)
  have hP : va_P D vwCl (([(q2, .inl (cy 0, 8, .inl (fun _ => 0))), (q1, .inl (cy 0, 8, .inl (fun _ => 0))), (h0, .inr (10, (fs15.set 16 (.ref q13))))]) ++ T12) H := hP
  have hD : va_D A (([(q2, .inl (cy 0, 8, .inl (fun _ => 0))), (q1, .inl (cy 0, 8, .inl (fun _ => 0))), (h0, .inr (10, (fs15.set 16 (.ref q13))))]) ++ T12) := hD
  obtain ⟨fs16, hfs16⟩ : ∃ f : List Value, f = [.int 12, .int 12, .ref q0, .ref q1, .ref q2, .ref q3, .ref q4, .ref q5, .int 0, .ref q6, .ref q7, .ref q8, .ref q9, .ref q10, .ref q11, .ref q12, .ref q13, .null, .null, .null, .null, .null, .null, .int 0, .null, .null, .null, .null, .int 0, .int 0, .int 0, .int 0, .int 0, .int 0, .int 0, .null, .null, .null, .null, .int 0, .int 0, .null, .null] := ⟨_, rfl⟩
  have he16 : fs15.set 16 (.ref q13) = fs16 := by rw [hfs15, hfs16]; rfl
  rw [he16] at hP hD
  have hlen16 : fs16.length = 43 := by rw [hfs16]; rfl
  clear he16 hlen15 hfs15
  refine lv_aload_n hx hb dX10_init_131 rfl (lv_at hl 0 rfl) ?_
  refine lv_bipush (v := 8) hx hb dX10_init_132 (by decide) ?_
  refine r_newz (T := []) hx hb (hts _ macz_X10_init) hCn hP hD hS hA (N' := 8) (by decide) (by decide) (Nat.le_of_ble_eq_true rfl) (Nat.le_of_ble_eq_true rfl) (Nat.le_of_ble_eq_true rfl) dX10_init_134 (fun q14 H hP hD hS => ?_)
  replace hP := hP.perm va_mv
  replace hD := hD.perm va_mv
  have hP : va_P D vwCl (([(q2, .inl (cy 0, 8, .inl (fun _ => 0))), (q1, .inl (cy 0, 8, .inl (fun _ => 0))), (h0, .inr (10, fs16))]) ++ ([(q14, .inl (cy 1, 8, .inl (fun _ => 0)))] ++ T12)) H := hP
  have hD : va_D A (([(q2, .inl (cy 0, 8, .inl (fun _ => 0))), (q1, .inl (cy 0, 8, .inl (fun _ => 0))), (h0, .inr (10, fs16))]) ++ ([(q14, .inl (cy 1, 8, .inl (fun _ => 0)))] ++ T12)) := hD
  obtain ⟨T13, hT13⟩ : ∃ T, T = [(q14, .inl (cy 1, 8, .inl (fun _ => 0)))] ++ T12 := ⟨_, rfl⟩
  rw [← hT13] at hP hD
  refine va_putF (D := D) (ci := 10) (v := .ref q14) (ty := .array .boolean) (C := RX10) (T := TX10) (N := 43) (fs := fs16) hx hb hts iw10_X10_init tyX10 tyX10_ok nmX10 hown hCn.1 hP hD hS 2 rfl rfl 17 (by decide) (hts _ mf59_X10_init) (fun _ h9 => h9) rfl hin rfl (by decide +kernel) rfl rfl (by rw [hlen16]; decide) dX10_init_136 (fun H locs hP hD hS => ?_)
  have hP : va_P D vwCl (([(q2, .inl (cy 0, 8, .inl (fun _ => 0))), (q1, .inl (cy 0, 8, .inl (fun _ => 0))), (h0, .inr (10, (fs16.set 17 (.ref q14))))]) ++ T13) H := hP
  have hD : va_D A (([(q2, .inl (cy 0, 8, .inl (fun _ => 0))), (q1, .inl (cy 0, 8, .inl (fun _ => 0))), (h0, .inr (10, (fs16.set 17 (.ref q14))))]) ++ T13) := hD
  obtain ⟨fs17, hfs17⟩ : ∃ f : List Value, f = [.int 12, .int 12, .ref q0, .ref q1, .ref q2, .ref q3, .ref q4, .ref q5, .int 0, .ref q6, .ref q7, .ref q8, .ref q9, .ref q10, .ref q11, .ref q12, .ref q13, .ref q14, .null, .null, .null, .null, .null, .int 0, .null, .null, .null, .null, .int 0, .int 0, .int 0, .int 0, .int 0, .int 0, .int 0, .null, .null, .null, .null, .int 0, .int 0, .null, .null] := ⟨_, rfl⟩
  have he17 : fs16.set 17 (.ref q14) = fs17 := by rw [hfs16, hfs17]; rfl
  rw [he17] at hP hD
  have hlen17 : fs17.length = 43 := by rw [hfs17]; rfl
  clear he17 hlen16 hfs16
  refine lv_aload_n hx hb dX10_init_139 rfl (lv_at hl 0 rfl) ?_
  refine lv_bipush (v := 8) hx hb dX10_init_140 (by decide) ?_
  refine r_newi (T := []) hx hb (hts _ maci_X10_init) hCn hP hD hS hA (N' := 8) (by decide) (by decide) (Nat.le_of_ble_eq_true rfl) (Nat.le_of_ble_eq_true rfl) (Nat.le_of_ble_eq_true rfl) dX10_init_142 (fun q15 H hP hD hS => ?_)
  replace hP := hP.perm va_mv
  replace hD := hD.perm va_mv
  have hP : va_P D vwCl (([(q2, .inl (cy 0, 8, .inl (fun _ => 0))), (q1, .inl (cy 0, 8, .inl (fun _ => 0))), (h0, .inr (10, fs17))]) ++ ([(q15, .inl (cy 0, 8, .inl (fun _ => 0)))] ++ T13)) H := hP
  have hD : va_D A (([(q2, .inl (cy 0, 8, .inl (fun _ => 0))), (q1, .inl (cy 0, 8, .inl (fun _ => 0))), (h0, .inr (10, fs17))]) ++ ([(q15, .inl (cy 0, 8, .inl (fun _ => 0)))] ++ T13)) := hD
  obtain ⟨T14, hT14⟩ : ∃ T, T = [(q15, .inl (cy 0, 8, .inl (fun _ => 0)))] ++ T13 := ⟨_, rfl⟩
  rw [← hT14] at hP hD
  refine va_putF (D := D) (ci := 10) (v := .ref q15) (ty := .array .int) (C := RX10) (T := TX10) (N := 43) (fs := fs17) hx hb hts iw10_X10_init tyX10 tyX10_ok nmX10 hown hCn.1 hP hD hS 2 rfl rfl 18 (by decide) (hts _ mf63_X10_init) (fun _ h9 => h9) rfl hin rfl (by decide +kernel) rfl rfl (by rw [hlen17]; decide) dX10_init_144 (fun H locs hP hD hS => ?_)
  have hP : va_P D vwCl (([(q2, .inl (cy 0, 8, .inl (fun _ => 0))), (q1, .inl (cy 0, 8, .inl (fun _ => 0))), (h0, .inr (10, (fs17.set 18 (.ref q15))))]) ++ T14) H := hP
  have hD : va_D A (([(q2, .inl (cy 0, 8, .inl (fun _ => 0))), (q1, .inl (cy 0, 8, .inl (fun _ => 0))), (h0, .inr (10, (fs17.set 18 (.ref q15))))]) ++ T14) := hD
  obtain ⟨fs18, hfs18⟩ : ∃ f : List Value, f = [.int 12, .int 12, .ref q0, .ref q1, .ref q2, .ref q3, .ref q4, .ref q5, .int 0, .ref q6, .ref q7, .ref q8, .ref q9, .ref q10, .ref q11, .ref q12, .ref q13, .ref q14, .ref q15, .null, .null, .null, .null, .int 0, .null, .null, .null, .null, .int 0, .int 0, .int 0, .int 0, .int 0, .int 0, .int 0, .null, .null, .null, .null, .int 0, .int 0, .null, .null] := ⟨_, rfl⟩
  have he18 : fs17.set 18 (.ref q15) = fs18 := by rw [hfs17, hfs18]; rfl
  rw [he18] at hP hD
  have hlen18 : fs18.length = 43 := by rw [hfs18]; rfl
  clear he18 hlen17 hfs17
  refine lv_aload_n hx hb dX10_init_147 rfl (lv_at hl 0 rfl) ?_
  refine lv_bipush (v := 8) hx hb dX10_init_148 (by decide) ?_
  refine r_newi (T := []) hx hb (hts _ maci_X10_init) hCn hP hD hS hA (N' := 8) (by decide) (by decide) (Nat.le_of_ble_eq_true rfl) (Nat.le_of_ble_eq_true rfl) (Nat.le_of_ble_eq_true rfl) dX10_init_150 (fun q16 H hP hD hS => ?_)
  replace hP := hP.perm va_mv
  replace hD := hD.perm va_mv
  have hP : va_P D vwCl (([(q2, .inl (cy 0, 8, .inl (fun _ => 0))), (q1, .inl (cy 0, 8, .inl (fun _ => 0))), (h0, .inr (10, fs18))]) ++ ([(q16, .inl (cy 0, 8, .inl (fun _ => 0)))] ++ T14)) H := hP
  have hD : va_D A (([(q2, .inl (cy 0, 8, .inl (fun _ => 0))), (q1, .inl (cy 0, 8, .inl (fun _ => 0))), (h0, .inr (10, fs18))]) ++ ([(q16, .inl (cy 0, 8, .inl (fun _ => 0)))] ++ T14)) := hD
  obtain ⟨T15, hT15⟩ : ∃ T, T = [(q16, .inl (cy 0, 8, .inl (fun _ => 0)))] ++ T14 := ⟨_, rfl⟩
  rw [← hT15] at hP hD
  refine va_putF (D := D) (ci := 10) (v := .ref q16) (ty := .array .int) (C := RX10) (T := TX10) (N := 43) (fs := fs18) hx hb hts iw10_X10_init tyX10 tyX10_ok nmX10 hown hCn.1 hP hD hS 2 rfl rfl 19 (by decide) (hts _ mf66_X10_init) (fun _ h9 => h9) rfl hin rfl (by decide +kernel) rfl rfl (by rw [hlen18]; decide) dX10_init_152 (fun H locs hP hD hS => ?_)
  have hP : va_P D vwCl (([(q2, .inl (cy 0, 8, .inl (fun _ => 0))), (q1, .inl (cy 0, 8, .inl (fun _ => 0))), (h0, .inr (10, (fs18.set 19 (.ref q16))))]) ++ T15) H := hP
  have hD : va_D A (([(q2, .inl (cy 0, 8, .inl (fun _ => 0))), (q1, .inl (cy 0, 8, .inl (fun _ => 0))), (h0, .inr (10, (fs18.set 19 (.ref q16))))]) ++ T15) := hD
  obtain ⟨fs19, hfs19⟩ : ∃ f : List Value, f = [.int 12, .int 12, .ref q0, .ref q1, .ref q2, .ref q3, .ref q4, .ref q5, .int 0, .ref q6, .ref q7, .ref q8, .ref q9, .ref q10, .ref q11, .ref q12, .ref q13, .ref q14, .ref q15, .ref q16, .null, .null, .null, .int 0, .null, .null, .null, .null, .int 0, .int 0, .int 0, .int 0, .int 0, .int 0, .int 0, .null, .null, .null, .null, .int 0, .int 0, .null, .null] := ⟨_, rfl⟩
  have he19 : fs18.set 19 (.ref q16) = fs19 := by rw [hfs18, hfs19]; rfl
  rw [he19] at hP hD
  have hlen19 : fs19.length = 43 := by rw [hfs19]; rfl
  clear he19 hlen18 hfs18
  refine lv_aload_n hx hb dX10_init_155 rfl (lv_at hl 0 rfl) ?_
  refine lv_sipush (v := 488) hx hb dX10_init_156 (by decide) ?_
  refine r_newi (T := []) hx hb (hts _ maci_X10_init) hCn hP hD hS hA (N' := 488) (by decide) (by decide) (Nat.le_of_ble_eq_true rfl) (Nat.le_of_ble_eq_true rfl) (Nat.le_of_ble_eq_true rfl) dX10_init_159 (fun q17 H hP hD hS => ?_)
  replace hP := hP.perm va_mv
  replace hD := hD.perm va_mv
  have hP : va_P D vwCl (([(q2, .inl (cy 0, 8, .inl (fun _ => 0))), (q1, .inl (cy 0, 8, .inl (fun _ => 0))), (h0, .inr (10, fs19))]) ++ ([(q17, .inl (cy 0, 488, .inl (fun _ => 0)))] ++ T15)) H := hP
  have hD : va_D A (([(q2, .inl (cy 0, 8, .inl (fun _ => 0))), (q1, .inl (cy 0, 8, .inl (fun _ => 0))), (h0, .inr (10, fs19))]) ++ ([(q17, .inl (cy 0, 488, .inl (fun _ => 0)))] ++ T15)) := hD
  obtain ⟨T16, hT16⟩ : ∃ T, T = [(q17, .inl (cy 0, 488, .inl (fun _ => 0)))] ++ T15 := ⟨_, rfl⟩
  rw [← hT16] at hP hD
  refine va_putF (D := D) (ci := 10) (v := .ref q17) (ty := .array .int) (C := RX10) (T := TX10) (N := 43) (fs := fs19) hx hb hts iw10_X10_init tyX10 tyX10_ok nmX10 hown hCn.1 hP hD hS 2 rfl rfl 20 (by decide) (hts _ mf69_X10_init) (fun _ h9 => h9) rfl hin rfl (by decide +kernel) rfl rfl (by rw [hlen19]; decide) dX10_init_161 (fun H locs hP hD hS => ?_)
  have hP : va_P D vwCl (([(q2, .inl (cy 0, 8, .inl (fun _ => 0))), (q1, .inl (cy 0, 8, .inl (fun _ => 0))), (h0, .inr (10, (fs19.set 20 (.ref q17))))]) ++ T16) H := hP
  have hD : va_D A (([(q2, .inl (cy 0, 8, .inl (fun _ => 0))), (q1, .inl (cy 0, 8, .inl (fun _ => 0))), (h0, .inr (10, (fs19.set 20 (.ref q17))))]) ++ T16) := hD
  obtain ⟨fs20, hfs20⟩ : ∃ f : List Value, f = [.int 12, .int 12, .ref q0, .ref q1, .ref q2, .ref q3, .ref q4, .ref q5, .int 0, .ref q6, .ref q7, .ref q8, .ref q9, .ref q10, .ref q11, .ref q12, .ref q13, .ref q14, .ref q15, .ref q16, .ref q17, .null, .null, .int 0, .null, .null, .null, .null, .int 0, .int 0, .int 0, .int 0, .int 0, .int 0, .int 0, .null, .null, .null, .null, .int 0, .int 0, .null, .null] := ⟨_, rfl⟩
  have he20 : fs19.set 20 (.ref q17) = fs20 := by rw [hfs19, hfs20]; rfl
  rw [he20] at hP hD
  have hlen20 : fs20.length = 43 := by rw [hfs20]; rfl
  clear he20 hlen19 hfs19
  refine lv_aload_n hx hb dX10_init_164 rfl (lv_at hl 0 rfl) ?_
  refine lv_sipush (v := 488) hx hb dX10_init_165 (by decide) ?_
  refine r_newi (T := []) hx hb (hts _ maci_X10_init) hCn hP hD hS hA (N' := 488) (by decide) (by decide) (Nat.le_of_ble_eq_true rfl) (Nat.le_of_ble_eq_true rfl) (Nat.le_of_ble_eq_true rfl) dX10_init_168 (fun q18 H hP hD hS => ?_)
  replace hP := hP.perm va_mv
  replace hD := hD.perm va_mv
  have hP : va_P D vwCl (([(q2, .inl (cy 0, 8, .inl (fun _ => 0))), (q1, .inl (cy 0, 8, .inl (fun _ => 0))), (h0, .inr (10, fs20))]) ++ ([(q18, .inl (cy 0, 488, .inl (fun _ => 0)))] ++ T16)) H := hP
  have hD : va_D A (([(q2, .inl (cy 0, 8, .inl (fun _ => 0))), (q1, .inl (cy 0, 8, .inl (fun _ => 0))), (h0, .inr (10, fs20))]) ++ ([(q18, .inl (cy 0, 488, .inl (fun _ => 0)))] ++ T16)) := hD
  obtain ⟨T17, hT17⟩ : ∃ T, T = [(q18, .inl (cy 0, 488, .inl (fun _ => 0)))] ++ T16 := ⟨_, rfl⟩
  rw [← hT17] at hP hD
  refine va_putF (D := D) (ci := 10) (v := .ref q18) (ty := .array .int) (C := RX10) (T := TX10) (N := 43) (fs := fs20) hx hb hts iw10_X10_init tyX10 tyX10_ok nmX10 hown hCn.1 hP hD hS 2 rfl rfl 21 (by decide) (hts _ mf72_X10_init) (fun _ h9 => h9) rfl hin rfl (by decide +kernel) rfl rfl (by rw [hlen20]; decide) dX10_init_170 (fun H locs hP hD hS => ?_)
  have hP : va_P D vwCl (([(q2, .inl (cy 0, 8, .inl (fun _ => 0))), (q1, .inl (cy 0, 8, .inl (fun _ => 0))), (h0, .inr (10, (fs20.set 21 (.ref q18))))]) ++ T17) H := hP
  have hD : va_D A (([(q2, .inl (cy 0, 8, .inl (fun _ => 0))), (q1, .inl (cy 0, 8, .inl (fun _ => 0))), (h0, .inr (10, (fs20.set 21 (.ref q18))))]) ++ T17) := hD
  obtain ⟨fs21, hfs21⟩ : ∃ f : List Value, f = [.int 12, .int 12, .ref q0, .ref q1, .ref q2, .ref q3, .ref q4, .ref q5, .int 0, .ref q6, .ref q7, .ref q8, .ref q9, .ref q10, .ref q11, .ref q12, .ref q13, .ref q14, .ref q15, .ref q16, .ref q17, .ref q18, .null, .int 0, .null, .null, .null, .null, .int 0, .int 0, .int 0, .int 0, .int 0, .int 0, .int 0, .null, .null, .null, .null, .int 0, .int 0, .null, .null] := ⟨_, rfl⟩
  have he21 : fs20.set 21 (.ref q18) = fs21 := by rw [hfs20, hfs21]; rfl
  rw [he21] at hP hD
  have hlen21 : fs21.length = 43 := by rw [hfs21]; rfl
  clear he21 hlen20 hfs20
  refine lv_aload_n hx hb dX10_init_173 rfl (lv_at hl 0 rfl) ?_
  refine lv_sipush (v := 488) hx hb dX10_init_174 (by decide) ?_
  refine r_newz (T := []) hx hb (hts _ macz_X10_init) hCn hP hD hS hA (N' := 488) (by decide) (by decide) (Nat.le_of_ble_eq_true rfl) (Nat.le_of_ble_eq_true rfl) (Nat.le_of_ble_eq_true rfl) dX10_init_177 (fun q19 H hP hD hS => ?_)
  replace hP := hP.perm va_mv
  replace hD := hD.perm va_mv
  have hP : va_P D vwCl (([(q2, .inl (cy 0, 8, .inl (fun _ => 0))), (q1, .inl (cy 0, 8, .inl (fun _ => 0))), (h0, .inr (10, fs21))]) ++ ([(q19, .inl (cy 1, 488, .inl (fun _ => 0)))] ++ T17)) H := hP
  have hD : va_D A (([(q2, .inl (cy 0, 8, .inl (fun _ => 0))), (q1, .inl (cy 0, 8, .inl (fun _ => 0))), (h0, .inr (10, fs21))]) ++ ([(q19, .inl (cy 1, 488, .inl (fun _ => 0)))] ++ T17)) := hD
  obtain ⟨T18, hT18⟩ : ∃ T, T = [(q19, .inl (cy 1, 488, .inl (fun _ => 0)))] ++ T17 := ⟨_, rfl⟩
  rw [← hT18] at hP hD
  refine va_putF (D := D) (ci := 10) (v := .ref q19) (ty := .array .boolean) (C := RX10) (T := TX10) (N := 43) (fs := fs21) hx hb hts iw10_X10_init tyX10 tyX10_ok nmX10 hown hCn.1 hP hD hS 2 rfl rfl 22 (by decide) (hts _ mf75_X10_init) (fun _ h9 => h9) rfl hin rfl (by decide +kernel) rfl rfl (by rw [hlen21]; decide) dX10_init_179 (fun H locs hP hD hS => ?_)
  have hP : va_P D vwCl (([(q2, .inl (cy 0, 8, .inl (fun _ => 0))), (q1, .inl (cy 0, 8, .inl (fun _ => 0))), (h0, .inr (10, (fs21.set 22 (.ref q19))))]) ++ T18) H := hP
  have hD : va_D A (([(q2, .inl (cy 0, 8, .inl (fun _ => 0))), (q1, .inl (cy 0, 8, .inl (fun _ => 0))), (h0, .inr (10, (fs21.set 22 (.ref q19))))]) ++ T18) := hD
  obtain ⟨fs22, hfs22⟩ : ∃ f : List Value, f = [.int 12, .int 12, .ref q0, .ref q1, .ref q2, .ref q3, .ref q4, .ref q5, .int 0, .ref q6, .ref q7, .ref q8, .ref q9, .ref q10, .ref q11, .ref q12, .ref q13, .ref q14, .ref q15, .ref q16, .ref q17, .ref q18, .ref q19, .int 0, .null, .null, .null, .null, .int 0, .int 0, .int 0, .int 0, .int 0, .int 0, .int 0, .null, .null, .null, .null, .int 0, .int 0, .null, .null] := ⟨_, rfl⟩
  have he22 : fs21.set 22 (.ref q19) = fs22 := by rw [hfs21, hfs22]; rfl
  rw [he22] at hP hD
  have hlen22 : fs22.length = 43 := by rw [hfs22]; rfl
  clear he22 hlen21 hfs21
  refine lv_aload_n hx hb dX10_init_182 rfl (lv_at hl 0 rfl) ?_
  refine lv_iconst (v := 4) hx hb dX10_init_183 (by decide) ?_
  refine r_newi (T := []) hx hb (hts _ maci_X10_init) hCn hP hD hS hA (N' := 4) (by decide) (by decide) (Nat.le_of_ble_eq_true rfl) (Nat.le_of_ble_eq_true rfl) (Nat.le_of_ble_eq_true rfl) dX10_init_184 (fun q20 H hP hD hS => ?_)
  replace hP := hP.perm va_mv
  replace hD := hD.perm va_mv
  have hP : va_P D vwCl (([(q2, .inl (cy 0, 8, .inl (fun _ => 0))), (q1, .inl (cy 0, 8, .inl (fun _ => 0))), (h0, .inr (10, fs22))]) ++ ([(q20, .inl (cy 0, 4, .inl (fun _ => 0)))] ++ T18)) H := hP
  have hD : va_D A (([(q2, .inl (cy 0, 8, .inl (fun _ => 0))), (q1, .inl (cy 0, 8, .inl (fun _ => 0))), (h0, .inr (10, fs22))]) ++ ([(q20, .inl (cy 0, 4, .inl (fun _ => 0)))] ++ T18)) := hD
  obtain ⟨T19, hT19⟩ : ∃ T, T = [(q20, .inl (cy 0, 4, .inl (fun _ => 0)))] ++ T18 := ⟨_, rfl⟩
  rw [← hT19] at hP hD
  refine va_putF (D := D) (ci := 10) (v := .ref q20) (ty := .array .int) (C := RX10) (T := TX10) (N := 43) (fs := fs22) hx hb hts iw10_X10_init tyX10 tyX10_ok nmX10 hown hCn.1 hP hD hS 2 rfl rfl 24 (by decide) (hts _ mf78_X10_init) (fun _ h9 => h9) rfl hin rfl (by decide +kernel) rfl rfl (by rw [hlen22]; decide) dX10_init_186 (fun H locs hP hD hS => ?_)
  have hP : va_P D vwCl (([(q2, .inl (cy 0, 8, .inl (fun _ => 0))), (q1, .inl (cy 0, 8, .inl (fun _ => 0))), (h0, .inr (10, (fs22.set 24 (.ref q20))))]) ++ T19) H := hP
  have hD : va_D A (([(q2, .inl (cy 0, 8, .inl (fun _ => 0))), (q1, .inl (cy 0, 8, .inl (fun _ => 0))), (h0, .inr (10, (fs22.set 24 (.ref q20))))]) ++ T19) := hD
  obtain ⟨fs23, hfs23⟩ : ∃ f : List Value, f = [.int 12, .int 12, .ref q0, .ref q1, .ref q2, .ref q3, .ref q4, .ref q5, .int 0, .ref q6, .ref q7, .ref q8, .ref q9, .ref q10, .ref q11, .ref q12, .ref q13, .ref q14, .ref q15, .ref q16, .ref q17, .ref q18, .ref q19, .int 0, .ref q20, .null, .null, .null, .int 0, .int 0, .int 0, .int 0, .int 0, .int 0, .int 0, .null, .null, .null, .null, .int 0, .int 0, .null, .null] := ⟨_, rfl⟩
  have he23 : fs22.set 24 (.ref q20) = fs23 := by rw [hfs22, hfs23]; rfl
  rw [he23] at hP hD
  have hlen23 : fs23.length = 43 := by rw [hfs23]; rfl
  clear he23 hlen22 hfs22
  refine lv_aload_n hx hb dX10_init_189 rfl (lv_at hl 0 rfl) ?_
  refine lv_iconst (v := 4) hx hb dX10_init_190 (by decide) ?_
  refine r_newi (T := []) hx hb (hts _ maci_X10_init) hCn hP hD hS hA (N' := 4) (by decide) (by decide) (Nat.le_of_ble_eq_true rfl) (Nat.le_of_ble_eq_true rfl) (Nat.le_of_ble_eq_true rfl) dX10_init_191 (fun q21 H hP hD hS => ?_)
  replace hP := hP.perm va_mv
  replace hD := hD.perm va_mv
  have hP : va_P D vwCl (([(q2, .inl (cy 0, 8, .inl (fun _ => 0))), (q1, .inl (cy 0, 8, .inl (fun _ => 0))), (h0, .inr (10, fs23))]) ++ ([(q21, .inl (cy 0, 4, .inl (fun _ => 0)))] ++ T19)) H := hP
  have hD : va_D A (([(q2, .inl (cy 0, 8, .inl (fun _ => 0))), (q1, .inl (cy 0, 8, .inl (fun _ => 0))), (h0, .inr (10, fs23))]) ++ ([(q21, .inl (cy 0, 4, .inl (fun _ => 0)))] ++ T19)) := hD
  obtain ⟨T20, hT20⟩ : ∃ T, T = [(q21, .inl (cy 0, 4, .inl (fun _ => 0)))] ++ T19 := ⟨_, rfl⟩
  rw [← hT20] at hP hD
  refine va_putF (D := D) (ci := 10) (v := .ref q21) (ty := .array .int) (C := RX10) (T := TX10) (N := 43) (fs := fs23) hx hb hts iw10_X10_init tyX10 tyX10_ok nmX10 hown hCn.1 hP hD hS 2 rfl rfl 25 (by decide) (hts _ mf81_X10_init) (fun _ h9 => h9) rfl hin rfl (by decide +kernel) rfl rfl (by rw [hlen23]; decide) dX10_init_193 (fun H locs hP hD hS => ?_)
  have hP : va_P D vwCl (([(q2, .inl (cy 0, 8, .inl (fun _ => 0))), (q1, .inl (cy 0, 8, .inl (fun _ => 0))), (h0, .inr (10, (fs23.set 25 (.ref q21))))]) ++ T20) H := hP
  have hD : va_D A (([(q2, .inl (cy 0, 8, .inl (fun _ => 0))), (q1, .inl (cy 0, 8, .inl (fun _ => 0))), (h0, .inr (10, (fs23.set 25 (.ref q21))))]) ++ T20) := hD
  obtain ⟨fs24, hfs24⟩ : ∃ f : List Value, f = [.int 12, .int 12, .ref q0, .ref q1, .ref q2, .ref q3, .ref q4, .ref q5, .int 0, .ref q6, .ref q7, .ref q8, .ref q9, .ref q10, .ref q11, .ref q12, .ref q13, .ref q14, .ref q15, .ref q16, .ref q17, .ref q18, .ref q19, .int 0, .ref q20, .ref q21, .null, .null, .int 0, .int 0, .int 0, .int 0, .int 0, .int 0, .int 0, .null, .null, .null, .null, .int 0, .int 0, .null, .null] := ⟨_, rfl⟩
  have he24 : fs23.set 25 (.ref q21) = fs24 := by rw [hfs23, hfs24]; rfl
  rw [he24] at hP hD
  have hlen24 : fs24.length = 43 := by rw [hfs24]; rfl
  clear he24 hlen23 hfs23
  refine lv_aload_n hx hb dX10_init_196 rfl (lv_at hl 0 rfl) ?_
  refine lv_iconst (v := 4) hx hb dX10_init_197 (by decide) ?_
  refine r_newi (T := []) hx hb (hts _ maci_X10_init) hCn hP hD hS hA (N' := 4) (by decide) (by decide) (Nat.le_of_ble_eq_true rfl) (Nat.le_of_ble_eq_true rfl) (Nat.le_of_ble_eq_true rfl) dX10_init_198 (fun q22 H hP hD hS => ?_)
  replace hP := hP.perm va_mv
  replace hD := hD.perm va_mv
  have hP : va_P D vwCl (([(q2, .inl (cy 0, 8, .inl (fun _ => 0))), (q1, .inl (cy 0, 8, .inl (fun _ => 0))), (h0, .inr (10, fs24))]) ++ ([(q22, .inl (cy 0, 4, .inl (fun _ => 0)))] ++ T20)) H := hP
  have hD : va_D A (([(q2, .inl (cy 0, 8, .inl (fun _ => 0))), (q1, .inl (cy 0, 8, .inl (fun _ => 0))), (h0, .inr (10, fs24))]) ++ ([(q22, .inl (cy 0, 4, .inl (fun _ => 0)))] ++ T20)) := hD
  obtain ⟨T21, hT21⟩ : ∃ T, T = [(q22, .inl (cy 0, 4, .inl (fun _ => 0)))] ++ T20 := ⟨_, rfl⟩
  rw [← hT21] at hP hD
  refine va_putF (D := D) (ci := 10) (v := .ref q22) (ty := .array .int) (C := RX10) (T := TX10) (N := 43) (fs := fs24) hx hb hts iw10_X10_init tyX10 tyX10_ok nmX10 hown hCn.1 hP hD hS 2 rfl rfl 26 (by decide) (hts _ mf84_X10_init) (fun _ h9 => h9) rfl hin rfl (by decide +kernel) rfl rfl (by rw [hlen24]; decide) dX10_init_200 (fun H locs hP hD hS => ?_)
  have hP : va_P D vwCl (([(q2, .inl (cy 0, 8, .inl (fun _ => 0))), (q1, .inl (cy 0, 8, .inl (fun _ => 0))), (h0, .inr (10, (fs24.set 26 (.ref q22))))]) ++ T21) H := hP
  have hD : va_D A (([(q2, .inl (cy 0, 8, .inl (fun _ => 0))), (q1, .inl (cy 0, 8, .inl (fun _ => 0))), (h0, .inr (10, (fs24.set 26 (.ref q22))))]) ++ T21) := hD
  obtain ⟨fs25, hfs25⟩ : ∃ f : List Value, f = [.int 12, .int 12, .ref q0, .ref q1, .ref q2, .ref q3, .ref q4, .ref q5, .int 0, .ref q6, .ref q7, .ref q8, .ref q9, .ref q10, .ref q11, .ref q12, .ref q13, .ref q14, .ref q15, .ref q16, .ref q17, .ref q18, .ref q19, .int 0, .ref q20, .ref q21, .ref q22, .null, .int 0, .int 0, .int 0, .int 0, .int 0, .int 0, .int 0, .null, .null, .null, .null, .int 0, .int 0, .null, .null] := ⟨_, rfl⟩
  have he25 : fs24.set 26 (.ref q22) = fs25 := by rw [hfs24, hfs25]; rfl
  rw [he25] at hP hD
  have hlen25 : fs25.length = 43 := by rw [hfs25]; rfl
  clear he25 hlen24 hfs24
  refine lv_aload_n hx hb dX10_init_203 rfl (lv_at hl 0 rfl) ?_
  refine lv_bipush (v := 6) hx hb dX10_init_204 (by decide) ?_
  refine r_newi (T := []) hx hb (hts _ maci_X10_init) hCn hP hD hS hA (N' := 6) (by decide) (by decide) (Nat.le_of_ble_eq_true rfl) (Nat.le_of_ble_eq_true rfl) (Nat.le_of_ble_eq_true rfl) dX10_init_206 (fun q23 H hP hD hS => ?_)
  replace hP := hP.perm va_mv
  replace hD := hD.perm va_mv
  have hP : va_P D vwCl (([(q2, .inl (cy 0, 8, .inl (fun _ => 0))), (q1, .inl (cy 0, 8, .inl (fun _ => 0))), (h0, .inr (10, fs25))]) ++ ([(q23, .inl (cy 0, 6, .inl (fun _ => 0)))] ++ T21)) H := hP
  have hD : va_D A (([(q2, .inl (cy 0, 8, .inl (fun _ => 0))), (q1, .inl (cy 0, 8, .inl (fun _ => 0))), (h0, .inr (10, fs25))]) ++ ([(q23, .inl (cy 0, 6, .inl (fun _ => 0)))] ++ T21)) := hD
  obtain ⟨T22, hT22⟩ : ∃ T, T = [(q23, .inl (cy 0, 6, .inl (fun _ => 0)))] ++ T21 := ⟨_, rfl⟩
  rw [← hT22] at hP hD
  refine va_putF (D := D) (ci := 10) (v := .ref q23) (ty := .array .int) (C := RX10) (T := TX10) (N := 43) (fs := fs25) hx hb hts iw10_X10_init tyX10 tyX10_ok nmX10 hown hCn.1 hP hD hS 2 rfl rfl 27 (by decide) (hts _ mf87_X10_init) (fun _ h9 => h9) rfl hin rfl (by decide +kernel) rfl rfl (by rw [hlen25]; decide) dX10_init_208 (fun H locs hP hD hS => ?_)
  have hP : va_P D vwCl (([(q2, .inl (cy 0, 8, .inl (fun _ => 0))), (q1, .inl (cy 0, 8, .inl (fun _ => 0))), (h0, .inr (10, (fs25.set 27 (.ref q23))))]) ++ T22) H := hP
  have hD : va_D A (([(q2, .inl (cy 0, 8, .inl (fun _ => 0))), (q1, .inl (cy 0, 8, .inl (fun _ => 0))), (h0, .inr (10, (fs25.set 27 (.ref q23))))]) ++ T22) := hD
  obtain ⟨fs26, hfs26⟩ : ∃ f : List Value, f = [.int 12, .int 12, .ref q0, .ref q1, .ref q2, .ref q3, .ref q4, .ref q5, .int 0, .ref q6, .ref q7, .ref q8, .ref q9, .ref q10, .ref q11, .ref q12, .ref q13, .ref q14, .ref q15, .ref q16, .ref q17, .ref q18, .ref q19, .int 0, .ref q20, .ref q21, .ref q22, .ref q23, .int 0, .int 0, .int 0, .int 0, .int 0, .int 0, .int 0, .null, .null, .null, .null, .int 0, .int 0, .null, .null] := ⟨_, rfl⟩
  have he26 : fs25.set 27 (.ref q23) = fs26 := by rw [hfs25, hfs26]; rfl
  rw [he26] at hP hD
  have hlen26 : fs26.length = 43 := by rw [hfs26]; rfl
  clear he26 hlen25 hfs25
  refine lv_aload_n hx hb dX10_init_211 rfl (lv_at hl 0 rfl) ?_
  refine lv_sipush (v := 4608) hx hb dX10_init_212 (by decide) ?_
  refine r_newi (T := []) hx hb (hts _ maci_X10_init) hCn hP hD hS hA (N' := 4608) (by decide) (by decide) (Nat.le_of_ble_eq_true rfl) (Nat.le_of_ble_eq_true rfl) (Nat.le_of_ble_eq_true rfl) dX10_init_215 (fun q24 H hP hD hS => ?_)
  replace hP := hP.perm va_mv
  replace hD := hD.perm va_mv
  have hP : va_P D vwCl (([(q2, .inl (cy 0, 8, .inl (fun _ => 0))), (q1, .inl (cy 0, 8, .inl (fun _ => 0))), (h0, .inr (10, fs26))]) ++ ([(q24, .inl (cy 0, 4608, .inl (fun _ => 0)))] ++ T22)) H := hP
  have hD : va_D A (([(q2, .inl (cy 0, 8, .inl (fun _ => 0))), (q1, .inl (cy 0, 8, .inl (fun _ => 0))), (h0, .inr (10, fs26))]) ++ ([(q24, .inl (cy 0, 4608, .inl (fun _ => 0)))] ++ T22)) := hD
  obtain ⟨T23, hT23⟩ : ∃ T, T = [(q24, .inl (cy 0, 4608, .inl (fun _ => 0)))] ++ T22 := ⟨_, rfl⟩
  rw [← hT23] at hP hD
  refine va_putF (D := D) (ci := 10) (v := .ref q24) (ty := .array .int) (C := RX10) (T := TX10) (N := 43) (fs := fs26) hx hb hts iw10_X10_init tyX10 tyX10_ok nmX10 hown hCn.1 hP hD hS 2 rfl rfl 35 (by decide) (hts _ mf90_X10_init) (fun _ h9 => h9) rfl hin rfl (by decide +kernel) rfl rfl (by rw [hlen26]; decide) dX10_init_217 (fun H locs hP hD hS => ?_)
  have hP : va_P D vwCl (([(q2, .inl (cy 0, 8, .inl (fun _ => 0))), (q1, .inl (cy 0, 8, .inl (fun _ => 0))), (h0, .inr (10, (fs26.set 35 (.ref q24))))]) ++ T23) H := hP
  have hD : va_D A (([(q2, .inl (cy 0, 8, .inl (fun _ => 0))), (q1, .inl (cy 0, 8, .inl (fun _ => 0))), (h0, .inr (10, (fs26.set 35 (.ref q24))))]) ++ T23) := hD
  obtain ⟨fs27, hfs27⟩ : ∃ f : List Value, f = [.int 12, .int 12, .ref q0, .ref q1, .ref q2, .ref q3, .ref q4, .ref q5, .int 0, .ref q6, .ref q7, .ref q8, .ref q9, .ref q10, .ref q11, .ref q12, .ref q13, .ref q14, .ref q15, .ref q16, .ref q17, .ref q18, .ref q19, .int 0, .ref q20, .ref q21, .ref q22, .ref q23, .int 0, .int 0, .int 0, .int 0, .int 0, .int 0, .int 0, .ref q24, .null, .null, .null, .int 0, .int 0, .null, .null] := ⟨_, rfl⟩
  have he27 : fs26.set 35 (.ref q24) = fs27 := by rw [hfs26, hfs27]; rfl
  rw [he27] at hP hD
  have hlen27 : fs27.length = 43 := by rw [hfs27]; rfl
  clear he27 hlen26 hfs26
  refine lv_aload_n hx hb dX10_init_220 rfl (lv_at hl 0 rfl) ?_
  refine lv_sipush (v := 4608) hx hb dX10_init_221 (by decide) ?_
  refine r_newi (T := []) hx hb (hts _ maci_X10_init) hCn hP hD hS hA (N' := 4608) (by decide) (by decide) (Nat.le_of_ble_eq_true rfl) (Nat.le_of_ble_eq_true rfl) (Nat.le_of_ble_eq_true rfl) dX10_init_224 (fun q25 H hP hD hS => ?_)
  replace hP := hP.perm va_mv
  replace hD := hD.perm va_mv
  have hP : va_P D vwCl (([(q2, .inl (cy 0, 8, .inl (fun _ => 0))), (q1, .inl (cy 0, 8, .inl (fun _ => 0))), (h0, .inr (10, fs27))]) ++ ([(q25, .inl (cy 0, 4608, .inl (fun _ => 0)))] ++ T23)) H := hP
  have hD : va_D A (([(q2, .inl (cy 0, 8, .inl (fun _ => 0))), (q1, .inl (cy 0, 8, .inl (fun _ => 0))), (h0, .inr (10, fs27))]) ++ ([(q25, .inl (cy 0, 4608, .inl (fun _ => 0)))] ++ T23)) := hD
  obtain ⟨T24, hT24⟩ : ∃ T, T = [(q25, .inl (cy 0, 4608, .inl (fun _ => 0)))] ++ T23 := ⟨_, rfl⟩
  rw [← hT24] at hP hD
  refine va_putF (D := D) (ci := 10) (v := .ref q25) (ty := .array .int) (C := RX10) (T := TX10) (N := 43) (fs := fs27) hx hb hts iw10_X10_init tyX10 tyX10_ok nmX10 hown hCn.1 hP hD hS 2 rfl rfl 36 (by decide) (hts _ mf93_X10_init) (fun _ h9 => h9) rfl hin rfl (by decide +kernel) rfl rfl (by rw [hlen27]; decide) dX10_init_226 (fun H locs hP hD hS => ?_)
  have hP : va_P D vwCl (([(q2, .inl (cy 0, 8, .inl (fun _ => 0))), (q1, .inl (cy 0, 8, .inl (fun _ => 0))), (h0, .inr (10, (fs27.set 36 (.ref q25))))]) ++ T24) H := hP
  have hD : va_D A (([(q2, .inl (cy 0, 8, .inl (fun _ => 0))), (q1, .inl (cy 0, 8, .inl (fun _ => 0))), (h0, .inr (10, (fs27.set 36 (.ref q25))))]) ++ T24) := hD
  obtain ⟨fs28, hfs28⟩ : ∃ f : List Value, f = [.int 12, .int 12, .ref q0, .ref q1, .ref q2, .ref q3, .ref q4, .ref q5, .int 0, .ref q6, .ref q7, .ref q8, .ref q9, .ref q10, .ref q11, .ref q12, .ref q13, .ref q14, .ref q15, .ref q16, .ref q17, .ref q18, .ref q19, .int 0, .ref q20, .ref q21, .ref q22, .ref q23, .int 0, .int 0, .int 0, .int 0, .int 0, .int 0, .int 0, .ref q24, .ref q25, .null, .null, .int 0, .int 0, .null, .null] := ⟨_, rfl⟩
  have he28 : fs27.set 36 (.ref q25) = fs28 := by rw [hfs27, hfs28]; rfl
  rw [he28] at hP hD
  have hlen28 : fs28.length = 43 := by rw [hfs28]; rfl
  clear he28 hlen27 hfs27
  refine lv_aload_n hx hb dX10_init_229 rfl (lv_at hl 0 rfl) ?_
  refine lv_sipush (v := 4608) hx hb dX10_init_230 (by decide) ?_
  refine r_newi (T := []) hx hb (hts _ maci_X10_init) hCn hP hD hS hA (N' := 4608) (by decide) (by decide) (Nat.le_of_ble_eq_true rfl) (Nat.le_of_ble_eq_true rfl) (Nat.le_of_ble_eq_true rfl) dX10_init_233 (fun q26 H hP hD hS => ?_)
  replace hP := hP.perm va_mv
  replace hD := hD.perm va_mv
  have hP : va_P D vwCl (([(q2, .inl (cy 0, 8, .inl (fun _ => 0))), (q1, .inl (cy 0, 8, .inl (fun _ => 0))), (h0, .inr (10, fs28))]) ++ ([(q26, .inl (cy 0, 4608, .inl (fun _ => 0)))] ++ T24)) H := hP
  have hD : va_D A (([(q2, .inl (cy 0, 8, .inl (fun _ => 0))), (q1, .inl (cy 0, 8, .inl (fun _ => 0))), (h0, .inr (10, fs28))]) ++ ([(q26, .inl (cy 0, 4608, .inl (fun _ => 0)))] ++ T24)) := hD
  obtain ⟨T25, hT25⟩ : ∃ T, T = [(q26, .inl (cy 0, 4608, .inl (fun _ => 0)))] ++ T24 := ⟨_, rfl⟩
  rw [← hT25] at hP hD
  refine va_putF (D := D) (ci := 10) (v := .ref q26) (ty := .array .int) (C := RX10) (T := TX10) (N := 43) (fs := fs28) hx hb hts iw10_X10_init tyX10 tyX10_ok nmX10 hown hCn.1 hP hD hS 2 rfl rfl 37 (by decide) (hts _ mf96_X10_init) (fun _ h9 => h9) rfl hin rfl (by decide +kernel) rfl rfl (by rw [hlen28]; decide) dX10_init_235 (fun H locs hP hD hS => ?_)
  have hP : va_P D vwCl (([(q2, .inl (cy 0, 8, .inl (fun _ => 0))), (q1, .inl (cy 0, 8, .inl (fun _ => 0))), (h0, .inr (10, (fs28.set 37 (.ref q26))))]) ++ T25) H := hP
  have hD : va_D A (([(q2, .inl (cy 0, 8, .inl (fun _ => 0))), (q1, .inl (cy 0, 8, .inl (fun _ => 0))), (h0, .inr (10, (fs28.set 37 (.ref q26))))]) ++ T25) := hD
  obtain ⟨fs29, hfs29⟩ : ∃ f : List Value, f = [.int 12, .int 12, .ref q0, .ref q1, .ref q2, .ref q3, .ref q4, .ref q5, .int 0, .ref q6, .ref q7, .ref q8, .ref q9, .ref q10, .ref q11, .ref q12, .ref q13, .ref q14, .ref q15, .ref q16, .ref q17, .ref q18, .ref q19, .int 0, .ref q20, .ref q21, .ref q22, .ref q23, .int 0, .int 0, .int 0, .int 0, .int 0, .int 0, .int 0, .ref q24, .ref q25, .ref q26, .null, .int 0, .int 0, .null, .null] := ⟨_, rfl⟩
  have he29 : fs28.set 37 (.ref q26) = fs29 := by rw [hfs28, hfs29]; rfl
  rw [he29] at hP hD
  have hlen29 : fs29.length = 43 := by rw [hfs29]; rfl
  clear he29 hlen28 hfs28
  refine lv_aload_n hx hb dX10_init_238 rfl (lv_at hl 0 rfl) ?_
  refine lv_sipush (v := 4608) hx hb dX10_init_239 (by decide) ?_
  refine r_newi (T := []) hx hb (hts _ maci_X10_init) hCn hP hD hS hA (N' := 4608) (by decide) (by decide) (Nat.le_of_ble_eq_true rfl) (Nat.le_of_ble_eq_true rfl) (Nat.le_of_ble_eq_true rfl) dX10_init_242 (fun q27 H hP hD hS => ?_)
  replace hP := hP.perm va_mv
  replace hD := hD.perm va_mv
  have hP : va_P D vwCl (([(q2, .inl (cy 0, 8, .inl (fun _ => 0))), (q1, .inl (cy 0, 8, .inl (fun _ => 0))), (h0, .inr (10, fs29))]) ++ ([(q27, .inl (cy 0, 4608, .inl (fun _ => 0)))] ++ T25)) H := hP
  have hD : va_D A (([(q2, .inl (cy 0, 8, .inl (fun _ => 0))), (q1, .inl (cy 0, 8, .inl (fun _ => 0))), (h0, .inr (10, fs29))]) ++ ([(q27, .inl (cy 0, 4608, .inl (fun _ => 0)))] ++ T25)) := hD
  obtain ⟨T26, hT26⟩ : ∃ T, T = [(q27, .inl (cy 0, 4608, .inl (fun _ => 0)))] ++ T25 := ⟨_, rfl⟩
  rw [← hT26] at hP hD
  refine va_putF (D := D) (ci := 10) (v := .ref q27) (ty := .array .int) (C := RX10) (T := TX10) (N := 43) (fs := fs29) hx hb hts iw10_X10_init tyX10 tyX10_ok nmX10 hown hCn.1 hP hD hS 2 rfl rfl 38 (by decide) (hts _ mf99_X10_init) (fun _ h9 => h9) rfl hin rfl (by decide +kernel) rfl rfl (by rw [hlen29]; decide) dX10_init_244 (fun H locs hP hD hS => ?_)
  have hP : va_P D vwCl (([(q2, .inl (cy 0, 8, .inl (fun _ => 0))), (q1, .inl (cy 0, 8, .inl (fun _ => 0))), (h0, .inr (10, (fs29.set 38 (.ref q27))))]) ++ T26) H := hP
  have hD : va_D A (([(q2, .inl (cy 0, 8, .inl (fun _ => 0))), (q1, .inl (cy 0, 8, .inl (fun _ => 0))), (h0, .inr (10, (fs29.set 38 (.ref q27))))]) ++ T26) := hD
  obtain ⟨fs30, hfs30⟩ : ∃ f : List Value, f = [.int 12, .int 12, .ref q0, .ref q1, .ref q2, .ref q3, .ref q4, .ref q5, .int 0, .ref q6, .ref q7, .ref q8, .ref q9, .ref q10, .ref q11, .ref q12, .ref q13, .ref q14, .ref q15, .ref q16, .ref q17, .ref q18, .ref q19, .int 0, .ref q20, .ref q21, .ref q22, .ref q23, .int 0, .int 0, .int 0, .int 0, .int 0, .int 0, .int 0, .ref q24, .ref q25, .ref q26, .ref q27, .int 0, .int 0, .null, .null] := ⟨_, rfl⟩
  have he30 : fs29.set 38 (.ref q27) = fs30 := by rw [hfs29, hfs30]; rfl
  rw [he30] at hP hD
  have hlen30 : fs30.length = 43 := by rw [hfs30]; rfl
  clear he30 hlen29 hfs29
  refine lv_aload_n hx hb dX10_init_247 rfl (lv_at hl 0 rfl) ?_
  refine lv_sipush (v := 576) hx hb dX10_init_248 (by decide) ?_
  refine r_newi (T := []) hx hb (hts _ maci_X10_init) hCn hP hD hS hA (N' := 576) (by decide) (by decide) (Nat.le_of_ble_eq_true rfl) (Nat.le_of_ble_eq_true rfl) (Nat.le_of_ble_eq_true rfl) dX10_init_251 (fun q28 H hP hD hS => ?_)
  replace hP := hP.perm va_mv
  replace hD := hD.perm va_mv
  have hP : va_P D vwCl (([(q2, .inl (cy 0, 8, .inl (fun _ => 0))), (q1, .inl (cy 0, 8, .inl (fun _ => 0))), (h0, .inr (10, fs30))]) ++ ([(q28, .inl (cy 0, 576, .inl (fun _ => 0)))] ++ T26)) H := hP
  have hD : va_D A (([(q2, .inl (cy 0, 8, .inl (fun _ => 0))), (q1, .inl (cy 0, 8, .inl (fun _ => 0))), (h0, .inr (10, fs30))]) ++ ([(q28, .inl (cy 0, 576, .inl (fun _ => 0)))] ++ T26)) := hD
  obtain ⟨T27, hT27⟩ : ∃ T, T = [(q28, .inl (cy 0, 576, .inl (fun _ => 0)))] ++ T26 := ⟨_, rfl⟩
  rw [← hT27] at hP hD
  refine va_putF (D := D) (ci := 10) (v := .ref q28) (ty := .array .int) (C := RX10) (T := TX10) (N := 43) (fs := fs30) hx hb hts iw10_X10_init tyX10 tyX10_ok nmX10 hown hCn.1 hP hD hS 2 rfl rfl 41 (by decide) (hts _ mf102_X10_init) (fun _ h9 => h9) rfl hin rfl (by decide +kernel) rfl rfl (by rw [hlen30]; decide) dX10_init_253 (fun H locs hP hD hS => ?_)
  have hP : va_P D vwCl (([(q2, .inl (cy 0, 8, .inl (fun _ => 0))), (q1, .inl (cy 0, 8, .inl (fun _ => 0))), (h0, .inr (10, (fs30.set 41 (.ref q28))))]) ++ T27) H := hP
  have hD : va_D A (([(q2, .inl (cy 0, 8, .inl (fun _ => 0))), (q1, .inl (cy 0, 8, .inl (fun _ => 0))), (h0, .inr (10, (fs30.set 41 (.ref q28))))]) ++ T27) := hD
  obtain ⟨fs31, hfs31⟩ : ∃ f : List Value, f = [.int 12, .int 12, .ref q0, .ref q1, .ref q2, .ref q3, .ref q4, .ref q5, .int 0, .ref q6, .ref q7, .ref q8, .ref q9, .ref q10, .ref q11, .ref q12, .ref q13, .ref q14, .ref q15, .ref q16, .ref q17, .ref q18, .ref q19, .int 0, .ref q20, .ref q21, .ref q22, .ref q23, .int 0, .int 0, .int 0, .int 0, .int 0, .int 0, .int 0, .ref q24, .ref q25, .ref q26, .ref q27, .int 0, .int 0, .ref q28, .null] := ⟨_, rfl⟩
  have he31 : fs30.set 41 (.ref q28) = fs31 := by rw [hfs30, hfs31]; rfl
  rw [he31] at hP hD
  have hlen31 : fs31.length = 43 := by rw [hfs31]; rfl
  clear he31 hlen30 hfs30
  refine lv_aload_n hx hb dX10_init_256 rfl (lv_at hl 0 rfl) ?_
  refine lv_bipush (v := 8) hx hb dX10_init_257 (by decide) ?_
  refine r_newz (T := []) hx hb (hts _ macz_X10_init) hCn hP hD hS hA (N' := 8) (by decide) (by decide) (Nat.le_of_ble_eq_true rfl) (Nat.le_of_ble_eq_true rfl) (Nat.le_of_ble_eq_true rfl) dX10_init_259 (fun q29 H hP hD hS => ?_)
  replace hP := hP.perm va_mv
  replace hD := hD.perm va_mv
  have hP : va_P D vwCl (([(q2, .inl (cy 0, 8, .inl (fun _ => 0))), (q1, .inl (cy 0, 8, .inl (fun _ => 0))), (h0, .inr (10, fs31))]) ++ ([(q29, .inl (cy 1, 8, .inl (fun _ => 0)))] ++ T27)) H := hP
  have hD : va_D A (([(q2, .inl (cy 0, 8, .inl (fun _ => 0))), (q1, .inl (cy 0, 8, .inl (fun _ => 0))), (h0, .inr (10, fs31))]) ++ ([(q29, .inl (cy 1, 8, .inl (fun _ => 0)))] ++ T27)) := hD
  obtain ⟨T28, hT28⟩ : ∃ T, T = [(q29, .inl (cy 1, 8, .inl (fun _ => 0)))] ++ T27 := ⟨_, rfl⟩
  rw [← hT28] at hP hD
  refine va_putF (D := D) (ci := 10) (v := .ref q29) (ty := .array .boolean) (C := RX10) (T := TX10) (N := 43) (fs := fs31) hx hb hts iw10_X10_init tyX10 tyX10_ok nmX10 hown hCn.1 hP hD hS 2 rfl rfl 42 (by decide) (hts _ mf105_X10_init) (fun _ h9 => h9) rfl hin rfl (by decide +kernel) rfl rfl (by rw [hlen31]; decide) dX10_init_261 (fun H locs hP hD hS => ?_)
  have hP : va_P D vwCl (([(q2, .inl (cy 0, 8, .inl (fun _ => 0))), (q1, .inl (cy 0, 8, .inl (fun _ => 0))), (h0, .inr (10, (fs31.set 42 (.ref q29))))]) ++ T28) H := hP
  have hD : va_D A (([(q2, .inl (cy 0, 8, .inl (fun _ => 0))), (q1, .inl (cy 0, 8, .inl (fun _ => 0))), (h0, .inr (10, (fs31.set 42 (.ref q29))))]) ++ T28) := hD
  obtain ⟨fs32, hfs32⟩ : ∃ f : List Value, f = [.int 12, .int 12, .ref q0, .ref q1, .ref q2, .ref q3, .ref q4, .ref q5, .int 0, .ref q6, .ref q7, .ref q8, .ref q9, .ref q10, .ref q11, .ref q12, .ref q13, .ref q14, .ref q15, .ref q16, .ref q17, .ref q18, .ref q19, .int 0, .ref q20, .ref q21, .ref q22, .ref q23, .int 0, .int 0, .int 0, .int 0, .int 0, .int 0, .int 0, .ref q24, .ref q25, .ref q26, .ref q27, .int 0, .int 0, .ref q28, .ref q29] := ⟨_, rfl⟩
  have he32 : fs31.set 42 (.ref q29) = fs32 := by rw [hfs31, hfs32]; rfl
  rw [he32] at hP hD
  have hlen32 : fs32.length = 43 := by rw [hfs32]; rfl
  clear he32 hlen31 hfs31
  refine lv_iconst (v := 0) hx hb dX10_init_264 (by decide) ?_
  refine lv_istore_n (lv' := [(1, .int 0), (0, .ref h0)]) hx hb dX10_init_265 rfl hl (by decide) rfl (fun ls hl => ?_)
  refine lv_iload_n hx hb dX10_init_266 rfl (lv_at hl 0 rfl) ?_
  refine lv_bipush (v := 8) hx hb dX10_init_267 (by decide) ?_
  refine lv_icmp_ge (tgt := 297) hx hb dX10_init_269 (by decide) (fun c1 => absurd c1 (by decide)) (fun _ => ?_)
  refine lv_aload_n hx hb dX10_init_272 rfl (lv_at hl 1 rfl) ?_
  have hg3 : fs32[3]? = some (.ref q1) := by rw [hfs32]; rfl
  have hg4 : fs32[4]? = some (.ref q2) := by rw [hfs32]; rfl
  refine va_get (D := D) (ci := 10) (v := .ref q1) (C := RX10) (T := TX10) (N := 43) hx hb hts iw10_X10_init hown hCn.1 hP 2 rfl rfl 3 (by decide) (hts _ mf20_X10_init) (fun _ h9 => h9) hg3 dX10_init_273 ?_
  refine lv_iload_n hx hb dX10_init_276 rfl (lv_at hl 0 rfl) ?_
  refine lv_bipush (v := 14) hx hb dX10_init_277 (by decide) ?_
  refine lv_iload_n hx hb dX10_init_279 rfl (lv_at hl 0 rfl) ?_
  refine lv_isub hx hb dX10_init_280 ?_
  refine W.eq (g2 := F0 m 281 ls [.int 14, .int 0, .ref q1]) rfl ?_
  refine va_iast hx hb hCn.1 hP hD hS 1 0 (n := 8) (f := (fun _ => 0)) rfl rfl (vp_in_nI (n := 0) (N := 8) (by decide) (by decide)) dX10_init_281 (fun H locs hP hD hS => ?_)
  have hP : va_P D vwCl (([(q2, .inl (cy 0, 8, .inl (fun _ => 0))), (q1, .inl (cy 0, 8, .inl (upd (fun _ => 0) 0 14))), (h0, .inr (10, fs32))]) ++ T28) H := hP
  have hD : va_D A (([(q2, .inl (cy 0, 8, .inl (fun _ => 0))), (q1, .inl (cy 0, 8, .inl (upd (fun _ => 0) 0 14))), (h0, .inr (10, fs32))]) ++ T28) := hD
  refine lv_aload_n hx hb dX10_init_282 rfl (lv_at hl 1 rfl) ?_
  refine va_get (D := D) (ci := 10) (v := .ref q2) (C := RX10) (T := TX10) (N := 43) hx hb hts iw10_X10_init hown hCn.1 hP 2 rfl rfl 4 (by decide) (hts _ mf23_X10_init) (fun _ h9 => h9) hg4 dX10_init_283 ?_
  refine lv_iload_n hx hb dX10_init_286 rfl (lv_at hl 0 rfl) ?_
  refine lv_sipush (v := 500) hx hb dX10_init_287 (by decide) ?_
  refine va_iast hx hb hCn.1 hP hD hS 0 0 (n := 8) (f := (fun _ => 0)) rfl rfl (vp_in_nI (n := 0) (N := 8) (by decide) (by decide)) dX10_init_290 (fun H locs hP hD hS => ?_)
  have hP : va_P D vwCl (([(q2, .inl (cy 0, 8, .inl (upd (fun _ => 0) 0 500))), (q1, .inl (cy 0, 8, .inl (upd (fun _ => 0) 0 14))), (h0, .inr (10, fs32))]) ++ T28) H := hP
  have hD : va_D A (([(q2, .inl (cy 0, 8, .inl (upd (fun _ => 0) 0 500))), (q1, .inl (cy 0, 8, .inl (upd (fun _ => 0) 0 14))), (h0, .inr (10, fs32))]) ++ T28) := hD
  refine lv_iinc (v := 1) (lv' := [(1, .int 1), (0, .ref h0)]) hx hb dX10_init_291 hl (k := 0) rfl rfl (by decide) rfl (fun ls hl => ?_)
  refine lv_goto (tgt := 266) hx hb dX10_init_294 (by decide) ?_
  refine lv_iload_n hx hb dX10_init_266 rfl (lv_at hl 0 rfl) ?_
  refine lv_bipush (v := 8) hx hb dX10_init_267 (by decide) ?_
  refine lv_icmp_ge (tgt := 297) hx hb dX10_init_269 (by decide) (fun c1 => absurd c1 (by decide)) (fun _ => ?_)
  refine lv_aload_n hx hb dX10_init_272 rfl (lv_at hl 1 rfl) ?_
  refine va_get (D := D) (ci := 10) (v := .ref q1) (C := RX10) (T := TX10) (N := 43) hx hb hts iw10_X10_init hown hCn.1 hP 2 rfl rfl 3 (by decide) (hts _ mf20_X10_init) (fun _ h9 => h9) hg3 dX10_init_273 ?_
  refine lv_iload_n hx hb dX10_init_276 rfl (lv_at hl 0 rfl) ?_
  refine lv_bipush (v := 14) hx hb dX10_init_277 (by decide) ?_
  refine lv_iload_n hx hb dX10_init_279 rfl (lv_at hl 0 rfl) ?_
  refine lv_isub hx hb dX10_init_280 ?_
  refine W.eq (g2 := F0 m 281 ls [.int 13, .int 1, .ref q1]) rfl ?_
  refine va_iast hx hb hCn.1 hP hD hS 1 0 (n := 8) (f := (upd (fun _ => 0) 0 14)) rfl rfl (vp_in_nI (n := 1) (N := 8) (by decide) (by decide)) dX10_init_281 (fun H locs hP hD hS => ?_)
  have hP : va_P D vwCl (([(q2, .inl (cy 0, 8, .inl (upd (fun _ => 0) 0 500))), (q1, .inl (cy 0, 8, .inl (upd (upd (fun _ => 0) 0 14) 1 13))), (h0, .inr (10, fs32))]) ++ T28) H := hP
  have hD : va_D A (([(q2, .inl (cy 0, 8, .inl (upd (fun _ => 0) 0 500))), (q1, .inl (cy 0, 8, .inl (upd (upd (fun _ => 0) 0 14) 1 13))), (h0, .inr (10, fs32))]) ++ T28) := hD
  refine lv_aload_n hx hb dX10_init_282 rfl (lv_at hl 1 rfl) ?_
  refine va_get (D := D) (ci := 10) (v := .ref q2) (C := RX10) (T := TX10) (N := 43) hx hb hts iw10_X10_init hown hCn.1 hP 2 rfl rfl 4 (by decide) (hts _ mf23_X10_init) (fun _ h9 => h9) hg4 dX10_init_283 ?_
  refine lv_iload_n hx hb dX10_init_286 rfl (lv_at hl 0 rfl) ?_
  refine lv_sipush (v := 500) hx hb dX10_init_287 (by decide) ?_
  refine va_iast hx hb hCn.1 hP hD hS 0 0 (n := 8) (f := (upd (fun _ => 0) 0 500)) rfl rfl (vp_in_nI (n := 1) (N := 8) (by decide) (by decide)) dX10_init_290 (fun H locs hP hD hS => ?_)
  have hP : va_P D vwCl (([(q2, .inl (cy 0, 8, .inl (upd (upd (fun _ => 0) 0 500) 1 500))), (q1, .inl (cy 0, 8, .inl (upd (upd (fun _ => 0) 0 14) 1 13))), (h0, .inr (10, fs32))]) ++ T28) H := hP
  have hD : va_D A (([(q2, .inl (cy 0, 8, .inl (upd (upd (fun _ => 0) 0 500) 1 500))), (q1, .inl (cy 0, 8, .inl (upd (upd (fun _ => 0) 0 14) 1 13))), (h0, .inr (10, fs32))]) ++ T28) := hD
  refine lv_iinc (v := 2) (lv' := [(1, .int 2), (0, .ref h0)]) hx hb dX10_init_291 hl (k := 0) rfl rfl (by decide) rfl (fun ls hl => ?_)
  refine lv_goto (tgt := 266) hx hb dX10_init_294 (by decide) ?_
  refine lv_iload_n hx hb dX10_init_266 rfl (lv_at hl 0 rfl) ?_
  refine lv_bipush (v := 8) hx hb dX10_init_267 (by decide) ?_
  refine lv_icmp_ge (tgt := 297) hx hb dX10_init_269 (by decide) (fun c1 => absurd c1 (by decide)) (fun _ => ?_)
  refine lv_aload_n hx hb dX10_init_272 rfl (lv_at hl 1 rfl) ?_
  refine va_get (D := D) (ci := 10) (v := .ref q1) (C := RX10) (T := TX10) (N := 43) hx hb hts iw10_X10_init hown hCn.1 hP 2 rfl rfl 3 (by decide) (hts _ mf20_X10_init) (fun _ h9 => h9) hg3 dX10_init_273 ?_
  refine lv_iload_n hx hb dX10_init_276 rfl (lv_at hl 0 rfl) ?_
  refine lv_bipush (v := 14) hx hb dX10_init_277 (by decide) ?_
  refine lv_iload_n hx hb dX10_init_279 rfl (lv_at hl 0 rfl) ?_
  refine lv_isub hx hb dX10_init_280 ?_
  refine W.eq (g2 := F0 m 281 ls [.int 12, .int 2, .ref q1]) rfl ?_
  refine va_iast hx hb hCn.1 hP hD hS 1 0 (n := 8) (f := (upd (upd (fun _ => 0) 0 14) 1 13)) rfl rfl (vp_in_nI (n := 2) (N := 8) (by decide) (by decide)) dX10_init_281 (fun H locs hP hD hS => ?_)
  have hP : va_P D vwCl (([(q2, .inl (cy 0, 8, .inl (upd (upd (fun _ => 0) 0 500) 1 500))), (q1, .inl (cy 0, 8, .inl (upd (upd (upd (fun _ => 0) 0 14) 1 13) 2 12))), (h0, .inr (10, fs32))]) ++ T28) H := hP
  have hD : va_D A (([(q2, .inl (cy 0, 8, .inl (upd (upd (fun _ => 0) 0 500) 1 500))), (q1, .inl (cy 0, 8, .inl (upd (upd (upd (fun _ => 0) 0 14) 1 13) 2 12))), (h0, .inr (10, fs32))]) ++ T28) := hD
  refine lv_aload_n hx hb dX10_init_282 rfl (lv_at hl 1 rfl) ?_
  refine va_get (D := D) (ci := 10) (v := .ref q2) (C := RX10) (T := TX10) (N := 43) hx hb hts iw10_X10_init hown hCn.1 hP 2 rfl rfl 4 (by decide) (hts _ mf23_X10_init) (fun _ h9 => h9) hg4 dX10_init_283 ?_
  refine lv_iload_n hx hb dX10_init_286 rfl (lv_at hl 0 rfl) ?_
  refine lv_sipush (v := 500) hx hb dX10_init_287 (by decide) ?_
  refine va_iast hx hb hCn.1 hP hD hS 0 0 (n := 8) (f := (upd (upd (fun _ => 0) 0 500) 1 500)) rfl rfl (vp_in_nI (n := 2) (N := 8) (by decide) (by decide)) dX10_init_290 (fun H locs hP hD hS => ?_)
  have hP : va_P D vwCl (([(q2, .inl (cy 0, 8, .inl (upd (upd (upd (fun _ => 0) 0 500) 1 500) 2 500))), (q1, .inl (cy 0, 8, .inl (upd (upd (upd (fun _ => 0) 0 14) 1 13) 2 12))), (h0, .inr (10, fs32))]) ++ T28) H := hP
  have hD : va_D A (([(q2, .inl (cy 0, 8, .inl (upd (upd (upd (fun _ => 0) 0 500) 1 500) 2 500))), (q1, .inl (cy 0, 8, .inl (upd (upd (upd (fun _ => 0) 0 14) 1 13) 2 12))), (h0, .inr (10, fs32))]) ++ T28) := hD
  refine lv_iinc (v := 3) (lv' := [(1, .int 3), (0, .ref h0)]) hx hb dX10_init_291 hl (k := 0) rfl rfl (by decide) rfl (fun ls hl => ?_)
  refine lv_goto (tgt := 266) hx hb dX10_init_294 (by decide) ?_
  refine lv_iload_n hx hb dX10_init_266 rfl (lv_at hl 0 rfl) ?_
  refine lv_bipush (v := 8) hx hb dX10_init_267 (by decide) ?_
  refine lv_icmp_ge (tgt := 297) hx hb dX10_init_269 (by decide) (fun c1 => absurd c1 (by decide)) (fun _ => ?_)
  refine lv_aload_n hx hb dX10_init_272 rfl (lv_at hl 1 rfl) ?_
  refine va_get (D := D) (ci := 10) (v := .ref q1) (C := RX10) (T := TX10) (N := 43) hx hb hts iw10_X10_init hown hCn.1 hP 2 rfl rfl 3 (by decide) (hts _ mf20_X10_init) (fun _ h9 => h9) hg3 dX10_init_273 ?_
  refine lv_iload_n hx hb dX10_init_276 rfl (lv_at hl 0 rfl) ?_
  refine lv_bipush (v := 14) hx hb dX10_init_277 (by decide) ?_
  refine lv_iload_n hx hb dX10_init_279 rfl (lv_at hl 0 rfl) ?_
  refine lv_isub hx hb dX10_init_280 ?_
  refine W.eq (g2 := F0 m 281 ls [.int 11, .int 3, .ref q1]) rfl ?_
  refine va_iast hx hb hCn.1 hP hD hS 1 0 (n := 8) (f := (upd (upd (upd (fun _ => 0) 0 14) 1 13) 2 12)) rfl rfl (vp_in_nI (n := 3) (N := 8) (by decide) (by decide)) dX10_init_281 (fun H locs hP hD hS => ?_)
  have hP : va_P D vwCl (([(q2, .inl (cy 0, 8, .inl (upd (upd (upd (fun _ => 0) 0 500) 1 500) 2 500))), (q1, .inl (cy 0, 8, .inl (upd (upd (upd (upd (fun _ => 0) 0 14) 1 13) 2 12) 3 11))), (h0, .inr (10, fs32))]) ++ T28) H := hP
  have hD : va_D A (([(q2, .inl (cy 0, 8, .inl (upd (upd (upd (fun _ => 0) 0 500) 1 500) 2 500))), (q1, .inl (cy 0, 8, .inl (upd (upd (upd (upd (fun _ => 0) 0 14) 1 13) 2 12) 3 11))), (h0, .inr (10, fs32))]) ++ T28) := hD
  refine lv_aload_n hx hb dX10_init_282 rfl (lv_at hl 1 rfl) ?_
  refine va_get (D := D) (ci := 10) (v := .ref q2) (C := RX10) (T := TX10) (N := 43) hx hb hts iw10_X10_init hown hCn.1 hP 2 rfl rfl 4 (by decide) (hts _ mf23_X10_init) (fun _ h9 => h9) hg4 dX10_init_283 ?_
  refine lv_iload_n hx hb dX10_init_286 rfl (lv_at hl 0 rfl) ?_
  refine lv_sipush (v := 500) hx hb dX10_init_287 (by decide) ?_
  refine va_iast hx hb hCn.1 hP hD hS 0 0 (n := 8) (f := (upd (upd (upd (fun _ => 0) 0 500) 1 500) 2 500)) rfl rfl (vp_in_nI (n := 3) (N := 8) (by decide) (by decide)) dX10_init_290 (fun H locs hP hD hS => ?_)
  have hP : va_P D vwCl (([(q2, .inl (cy 0, 8, .inl (upd (upd (upd (upd (fun _ => 0) 0 500) 1 500) 2 500) 3 500))), (q1, .inl (cy 0, 8, .inl (upd (upd (upd (upd (fun _ => 0) 0 14) 1 13) 2 12) 3 11))), (h0, .inr (10, fs32))]) ++ T28) H := hP
  have hD : va_D A (([(q2, .inl (cy 0, 8, .inl (upd (upd (upd (upd (fun _ => 0) 0 500) 1 500) 2 500) 3 500))), (q1, .inl (cy 0, 8, .inl (upd (upd (upd (upd (fun _ => 0) 0 14) 1 13) 2 12) 3 11))), (h0, .inr (10, fs32))]) ++ T28) := hD
  refine lv_iinc (v := 4) (lv' := [(1, .int 4), (0, .ref h0)]) hx hb dX10_init_291 hl (k := 0) rfl rfl (by decide) rfl (fun ls hl => ?_)
  refine lv_goto (tgt := 266) hx hb dX10_init_294 (by decide) ?_
  refine lv_iload_n hx hb dX10_init_266 rfl (lv_at hl 0 rfl) ?_
  refine lv_bipush (v := 8) hx hb dX10_init_267 (by decide) ?_
  refine lv_icmp_ge (tgt := 297) hx hb dX10_init_269 (by decide) (fun c1 => absurd c1 (by decide)) (fun _ => ?_)
  refine lv_aload_n hx hb dX10_init_272 rfl (lv_at hl 1 rfl) ?_
  refine va_get (D := D) (ci := 10) (v := .ref q1) (C := RX10) (T := TX10) (N := 43) hx hb hts iw10_X10_init hown hCn.1 hP 2 rfl rfl 3 (by decide) (hts _ mf20_X10_init) (fun _ h9 => h9) hg3 dX10_init_273 ?_
  refine lv_iload_n hx hb dX10_init_276 rfl (lv_at hl 0 rfl) ?_
  refine lv_bipush (v := 14) hx hb dX10_init_277 (by decide) ?_
  refine lv_iload_n hx hb dX10_init_279 rfl (lv_at hl 0 rfl) ?_
  refine lv_isub hx hb dX10_init_280 ?_
  refine W.eq (g2 := F0 m 281 ls [.int 10, .int 4, .ref q1]) rfl ?_
  refine va_iast hx hb hCn.1 hP hD hS 1 0 (n := 8) (f := (upd (upd (upd (upd (fun _ => 0) 0 14) 1 13) 2 12) 3 11)) rfl rfl (vp_in_nI (n := 4) (N := 8) (by decide) (by decide)) dX10_init_281 (fun H locs hP hD hS => ?_)
  have hP : va_P D vwCl (([(q2, .inl (cy 0, 8, .inl (upd (upd (upd (upd (fun _ => 0) 0 500) 1 500) 2 500) 3 500))), (q1, .inl (cy 0, 8, .inl (upd (upd (upd (upd (upd (fun _ => 0) 0 14) 1 13) 2 12) 3 11) 4 10))), (h0, .inr (10, fs32))]) ++ T28) H := hP
  have hD : va_D A (([(q2, .inl (cy 0, 8, .inl (upd (upd (upd (upd (fun _ => 0) 0 500) 1 500) 2 500) 3 500))), (q1, .inl (cy 0, 8, .inl (upd (upd (upd (upd (upd (fun _ => 0) 0 14) 1 13) 2 12) 3 11) 4 10))), (h0, .inr (10, fs32))]) ++ T28) := hD
  refine lv_aload_n hx hb dX10_init_282 rfl (lv_at hl 1 rfl) ?_
  refine va_get (D := D) (ci := 10) (v := .ref q2) (C := RX10) (T := TX10) (N := 43) hx hb hts iw10_X10_init hown hCn.1 hP 2 rfl rfl 4 (by decide) (hts _ mf23_X10_init) (fun _ h9 => h9) hg4 dX10_init_283 ?_
  refine lv_iload_n hx hb dX10_init_286 rfl (lv_at hl 0 rfl) ?_
  refine lv_sipush (v := 500) hx hb dX10_init_287 (by decide) ?_
  refine va_iast hx hb hCn.1 hP hD hS 0 0 (n := 8) (f := (upd (upd (upd (upd (fun _ => 0) 0 500) 1 500) 2 500) 3 500)) rfl rfl (vp_in_nI (n := 4) (N := 8) (by decide) (by decide)) dX10_init_290 (fun H locs hP hD hS => ?_)
  have hP : va_P D vwCl (([(q2, .inl (cy 0, 8, .inl (upd (upd (upd (upd (upd (fun _ => 0) 0 500) 1 500) 2 500) 3 500) 4 500))), (q1, .inl (cy 0, 8, .inl (upd (upd (upd (upd (upd (fun _ => 0) 0 14) 1 13) 2 12) 3 11) 4 10))), (h0, .inr (10, fs32))]) ++ T28) H := hP
  have hD : va_D A (([(q2, .inl (cy 0, 8, .inl (upd (upd (upd (upd (upd (fun _ => 0) 0 500) 1 500) 2 500) 3 500) 4 500))), (q1, .inl (cy 0, 8, .inl (upd (upd (upd (upd (upd (fun _ => 0) 0 14) 1 13) 2 12) 3 11) 4 10))), (h0, .inr (10, fs32))]) ++ T28) := hD
  refine lv_iinc (v := 5) (lv' := [(1, .int 5), (0, .ref h0)]) hx hb dX10_init_291 hl (k := 0) rfl rfl (by decide) rfl (fun ls hl => ?_)
  refine lv_goto (tgt := 266) hx hb dX10_init_294 (by decide) ?_
  refine lv_iload_n hx hb dX10_init_266 rfl (lv_at hl 0 rfl) ?_
  refine lv_bipush (v := 8) hx hb dX10_init_267 (by decide) ?_
  refine lv_icmp_ge (tgt := 297) hx hb dX10_init_269 (by decide) (fun c1 => absurd c1 (by decide)) (fun _ => ?_)
  refine lv_aload_n hx hb dX10_init_272 rfl (lv_at hl 1 rfl) ?_
  refine va_get (D := D) (ci := 10) (v := .ref q1) (C := RX10) (T := TX10) (N := 43) hx hb hts iw10_X10_init hown hCn.1 hP 2 rfl rfl 3 (by decide) (hts _ mf20_X10_init) (fun _ h9 => h9) hg3 dX10_init_273 ?_
  refine lv_iload_n hx hb dX10_init_276 rfl (lv_at hl 0 rfl) ?_
  refine lv_bipush (v := 14) hx hb dX10_init_277 (by decide) ?_
  refine lv_iload_n hx hb dX10_init_279 rfl (lv_at hl 0 rfl) ?_
  refine lv_isub hx hb dX10_init_280 ?_
  refine W.eq (g2 := F0 m 281 ls [.int 9, .int 5, .ref q1]) rfl ?_
  refine va_iast hx hb hCn.1 hP hD hS 1 0 (n := 8) (f := (upd (upd (upd (upd (upd (fun _ => 0) 0 14) 1 13) 2 12) 3 11) 4 10)) rfl rfl (vp_in_nI (n := 5) (N := 8) (by decide) (by decide)) dX10_init_281 (fun H locs hP hD hS => ?_)
  have hP : va_P D vwCl (([(q2, .inl (cy 0, 8, .inl (upd (upd (upd (upd (upd (fun _ => 0) 0 500) 1 500) 2 500) 3 500) 4 500))), (q1, .inl (cy 0, 8, .inl (upd (upd (upd (upd (upd (upd (fun _ => 0) 0 14) 1 13) 2 12) 3 11) 4 10) 5 9))), (h0, .inr (10, fs32))]) ++ T28) H := hP
  have hD : va_D A (([(q2, .inl (cy 0, 8, .inl (upd (upd (upd (upd (upd (fun _ => 0) 0 500) 1 500) 2 500) 3 500) 4 500))), (q1, .inl (cy 0, 8, .inl (upd (upd (upd (upd (upd (upd (fun _ => 0) 0 14) 1 13) 2 12) 3 11) 4 10) 5 9))), (h0, .inr (10, fs32))]) ++ T28) := hD
  refine lv_aload_n hx hb dX10_init_282 rfl (lv_at hl 1 rfl) ?_
  refine va_get (D := D) (ci := 10) (v := .ref q2) (C := RX10) (T := TX10) (N := 43) hx hb hts iw10_X10_init hown hCn.1 hP 2 rfl rfl 4 (by decide) (hts _ mf23_X10_init) (fun _ h9 => h9) hg4 dX10_init_283 ?_
  refine lv_iload_n hx hb dX10_init_286 rfl (lv_at hl 0 rfl) ?_
  refine lv_sipush (v := 500) hx hb dX10_init_287 (by decide) ?_
  refine va_iast hx hb hCn.1 hP hD hS 0 0 (n := 8) (f := (upd (upd (upd (upd (upd (fun _ => 0) 0 500) 1 500) 2 500) 3 500) 4 500)) rfl rfl (vp_in_nI (n := 5) (N := 8) (by decide) (by decide)) dX10_init_290 (fun H locs hP hD hS => ?_)
  have hP : va_P D vwCl (([(q2, .inl (cy 0, 8, .inl (upd (upd (upd (upd (upd (upd (fun _ => 0) 0 500) 1 500) 2 500) 3 500) 4 500) 5 500))), (q1, .inl (cy 0, 8, .inl (upd (upd (upd (upd (upd (upd (fun _ => 0) 0 14) 1 13) 2 12) 3 11) 4 10) 5 9))), (h0, .inr (10, fs32))]) ++ T28) H := hP
  have hD : va_D A (([(q2, .inl (cy 0, 8, .inl (upd (upd (upd (upd (upd (upd (fun _ => 0) 0 500) 1 500) 2 500) 3 500) 4 500) 5 500))), (q1, .inl (cy 0, 8, .inl (upd (upd (upd (upd (upd (upd (fun _ => 0) 0 14) 1 13) 2 12) 3 11) 4 10) 5 9))), (h0, .inr (10, fs32))]) ++ T28) := hD
  refine lv_iinc (v := 6) (lv' := [(1, .int 6), (0, .ref h0)]) hx hb dX10_init_291 hl (k := 0) rfl rfl (by decide) rfl (fun ls hl => ?_)
  refine lv_goto (tgt := 266) hx hb dX10_init_294 (by decide) ?_
  refine lv_iload_n hx hb dX10_init_266 rfl (lv_at hl 0 rfl) ?_
  refine lv_bipush (v := 8) hx hb dX10_init_267 (by decide) ?_
  refine lv_icmp_ge (tgt := 297) hx hb dX10_init_269 (by decide) (fun c1 => absurd c1 (by decide)) (fun _ => ?_)
  refine lv_aload_n hx hb dX10_init_272 rfl (lv_at hl 1 rfl) ?_
  refine va_get (D := D) (ci := 10) (v := .ref q1) (C := RX10) (T := TX10) (N := 43) hx hb hts iw10_X10_init hown hCn.1 hP 2 rfl rfl 3 (by decide) (hts _ mf20_X10_init) (fun _ h9 => h9) hg3 dX10_init_273 ?_
  refine lv_iload_n hx hb dX10_init_276 rfl (lv_at hl 0 rfl) ?_
  refine lv_bipush (v := 14) hx hb dX10_init_277 (by decide) ?_
  refine lv_iload_n hx hb dX10_init_279 rfl (lv_at hl 0 rfl) ?_
  refine lv_isub hx hb dX10_init_280 ?_
  refine W.eq (g2 := F0 m 281 ls [.int 8, .int 6, .ref q1]) rfl ?_
  refine va_iast hx hb hCn.1 hP hD hS 1 0 (n := 8) (f := (upd (upd (upd (upd (upd (upd (fun _ => 0) 0 14) 1 13) 2 12) 3 11) 4 10) 5 9)) rfl rfl (vp_in_nI (n := 6) (N := 8) (by decide) (by decide)) dX10_init_281 (fun H locs hP hD hS => ?_)
  have hP : va_P D vwCl (([(q2, .inl (cy 0, 8, .inl (upd (upd (upd (upd (upd (upd (fun _ => 0) 0 500) 1 500) 2 500) 3 500) 4 500) 5 500))), (q1, .inl (cy 0, 8, .inl (upd (upd (upd (upd (upd (upd (upd (fun _ => 0) 0 14) 1 13) 2 12) 3 11) 4 10) 5 9) 6 8))), (h0, .inr (10, fs32))]) ++ T28) H := hP
  have hD : va_D A (([(q2, .inl (cy 0, 8, .inl (upd (upd (upd (upd (upd (upd (fun _ => 0) 0 500) 1 500) 2 500) 3 500) 4 500) 5 500))), (q1, .inl (cy 0, 8, .inl (upd (upd (upd (upd (upd (upd (upd (fun _ => 0) 0 14) 1 13) 2 12) 3 11) 4 10) 5 9) 6 8))), (h0, .inr (10, fs32))]) ++ T28) := hD
  refine lv_aload_n hx hb dX10_init_282 rfl (lv_at hl 1 rfl) ?_
  refine va_get (D := D) (ci := 10) (v := .ref q2) (C := RX10) (T := TX10) (N := 43) hx hb hts iw10_X10_init hown hCn.1 hP 2 rfl rfl 4 (by decide) (hts _ mf23_X10_init) (fun _ h9 => h9) hg4 dX10_init_283 ?_
  refine lv_iload_n hx hb dX10_init_286 rfl (lv_at hl 0 rfl) ?_
  refine lv_sipush (v := 500) hx hb dX10_init_287 (by decide) ?_
  refine va_iast hx hb hCn.1 hP hD hS 0 0 (n := 8) (f := (upd (upd (upd (upd (upd (upd (fun _ => 0) 0 500) 1 500) 2 500) 3 500) 4 500) 5 500)) rfl rfl (vp_in_nI (n := 6) (N := 8) (by decide) (by decide)) dX10_init_290 (fun H locs hP hD hS => ?_)
  have hP : va_P D vwCl (([(q2, .inl (cy 0, 8, .inl (upd (upd (upd (upd (upd (upd (upd (fun _ => 0) 0 500) 1 500) 2 500) 3 500) 4 500) 5 500) 6 500))), (q1, .inl (cy 0, 8, .inl (upd (upd (upd (upd (upd (upd (upd (fun _ => 0) 0 14) 1 13) 2 12) 3 11) 4 10) 5 9) 6 8))), (h0, .inr (10, fs32))]) ++ T28) H := hP
  have hD : va_D A (([(q2, .inl (cy 0, 8, .inl (upd (upd (upd (upd (upd (upd (upd (fun _ => 0) 0 500) 1 500) 2 500) 3 500) 4 500) 5 500) 6 500))), (q1, .inl (cy 0, 8, .inl (upd (upd (upd (upd (upd (upd (upd (fun _ => 0) 0 14) 1 13) 2 12) 3 11) 4 10) 5 9) 6 8))), (h0, .inr (10, fs32))]) ++ T28) := hD
  refine lv_iinc (v := 7) (lv' := [(1, .int 7), (0, .ref h0)]) hx hb dX10_init_291 hl (k := 0) rfl rfl (by decide) rfl (fun ls hl => ?_)
  refine lv_goto (tgt := 266) hx hb dX10_init_294 (by decide) ?_
  refine lv_iload_n hx hb dX10_init_266 rfl (lv_at hl 0 rfl) ?_
  refine lv_bipush (v := 8) hx hb dX10_init_267 (by decide) ?_
  refine lv_icmp_ge (tgt := 297) hx hb dX10_init_269 (by decide) (fun c1 => absurd c1 (by decide)) (fun _ => ?_)
  refine lv_aload_n hx hb dX10_init_272 rfl (lv_at hl 1 rfl) ?_
  refine va_get (D := D) (ci := 10) (v := .ref q1) (C := RX10) (T := TX10) (N := 43) hx hb hts iw10_X10_init hown hCn.1 hP 2 rfl rfl 3 (by decide) (hts _ mf20_X10_init) (fun _ h9 => h9) hg3 dX10_init_273 ?_
  refine lv_iload_n hx hb dX10_init_276 rfl (lv_at hl 0 rfl) ?_
  refine lv_bipush (v := 14) hx hb dX10_init_277 (by decide) ?_
  refine lv_iload_n hx hb dX10_init_279 rfl (lv_at hl 0 rfl) ?_
  refine lv_isub hx hb dX10_init_280 ?_
  refine W.eq (g2 := F0 m 281 ls [.int 7, .int 7, .ref q1]) rfl ?_
  refine va_iast hx hb hCn.1 hP hD hS 1 0 (n := 8) (f := (upd (upd (upd (upd (upd (upd (upd (fun _ => 0) 0 14) 1 13) 2 12) 3 11) 4 10) 5 9) 6 8)) rfl rfl (vp_in_nI (n := 7) (N := 8) (by decide) (by decide)) dX10_init_281 (fun H locs hP hD hS => ?_)
  have hP : va_P D vwCl (([(q2, .inl (cy 0, 8, .inl (upd (upd (upd (upd (upd (upd (upd (fun _ => 0) 0 500) 1 500) 2 500) 3 500) 4 500) 5 500) 6 500))), (q1, .inl (cy 0, 8, .inl (upd (upd (upd (upd (upd (upd (upd (upd (fun _ => 0) 0 14) 1 13) 2 12) 3 11) 4 10) 5 9) 6 8) 7 7))), (h0, .inr (10, fs32))]) ++ T28) H := hP
  have hD : va_D A (([(q2, .inl (cy 0, 8, .inl (upd (upd (upd (upd (upd (upd (upd (fun _ => 0) 0 500) 1 500) 2 500) 3 500) 4 500) 5 500) 6 500))), (q1, .inl (cy 0, 8, .inl (upd (upd (upd (upd (upd (upd (upd (upd (fun _ => 0) 0 14) 1 13) 2 12) 3 11) 4 10) 5 9) 6 8) 7 7))), (h0, .inr (10, fs32))]) ++ T28) := hD
  refine lv_aload_n hx hb dX10_init_282 rfl (lv_at hl 1 rfl) ?_
  refine va_get (D := D) (ci := 10) (v := .ref q2) (C := RX10) (T := TX10) (N := 43) hx hb hts iw10_X10_init hown hCn.1 hP 2 rfl rfl 4 (by decide) (hts _ mf23_X10_init) (fun _ h9 => h9) hg4 dX10_init_283 ?_
  refine lv_iload_n hx hb dX10_init_286 rfl (lv_at hl 0 rfl) ?_
  refine lv_sipush (v := 500) hx hb dX10_init_287 (by decide) ?_
  refine va_iast hx hb hCn.1 hP hD hS 0 0 (n := 8) (f := (upd (upd (upd (upd (upd (upd (upd (fun _ => 0) 0 500) 1 500) 2 500) 3 500) 4 500) 5 500) 6 500)) rfl rfl (vp_in_nI (n := 7) (N := 8) (by decide) (by decide)) dX10_init_290 (fun H locs hP hD hS => ?_)
  have hP : va_P D vwCl (([(q2, .inl (cy 0, 8, .inl (upd (upd (upd (upd (upd (upd (upd (upd (fun _ => 0) 0 500) 1 500) 2 500) 3 500) 4 500) 5 500) 6 500) 7 500))), (q1, .inl (cy 0, 8, .inl (upd (upd (upd (upd (upd (upd (upd (upd (fun _ => 0) 0 14) 1 13) 2 12) 3 11) 4 10) 5 9) 6 8) 7 7))), (h0, .inr (10, fs32))]) ++ T28) H := hP
  have hD : va_D A (([(q2, .inl (cy 0, 8, .inl (upd (upd (upd (upd (upd (upd (upd (upd (fun _ => 0) 0 500) 1 500) 2 500) 3 500) 4 500) 5 500) 6 500) 7 500))), (q1, .inl (cy 0, 8, .inl (upd (upd (upd (upd (upd (upd (upd (upd (fun _ => 0) 0 14) 1 13) 2 12) 3 11) 4 10) 5 9) 6 8) 7 7))), (h0, .inr (10, fs32))]) ++ T28) := hD
  refine lv_iinc (v := 8) (lv' := [(1, .int 8), (0, .ref h0)]) hx hb dX10_init_291 hl (k := 0) rfl rfl (by decide) rfl (fun ls hl => ?_)
  refine lv_goto (tgt := 266) hx hb dX10_init_294 (by decide) ?_
  refine lv_iload_n hx hb dX10_init_266 rfl (lv_at hl 0 rfl) ?_
  refine lv_bipush (v := 8) hx hb dX10_init_267 (by decide) ?_
  refine lv_icmp_ge (tgt := 297) hx hb dX10_init_269 (by decide) (fun _ => ?_) (fun c1 => absurd (by decide) c1)
  refine W.widen (k := 30) (n := 21970) (Nat.le_of_ble_eq_true rfl) (Nat.le_of_ble_eq_true rfl) ?_
  rw [hfs32] at hP hD
  rw [hT28, hT27, hT26, hT25, hT24, hT23, hT22, hT21, hT20, hT19, hT18, hT17, hT16, hT15, hT14, hT13, hT12, hT11, hT10, hT9, hT8, hT7, hT6, hT5, hT4, hT3, hT2, hT1, hT0] at hP hD
  exact r_nret (w1 := wX10 cy h0) S hr hlocks (fun k => ([q2, q1, q29, q28, q27, q26, q25, q24, q23, q22, q21, q20, q19, q18, q17, q16, q15, q14, q13, q12, q11, q10, q9, q8, q7, q6, q5, q4, q3, q0] : List Nat).getD k 0) hP hD hS dX10_init_297
