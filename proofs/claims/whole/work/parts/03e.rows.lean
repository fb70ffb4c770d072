theorem mf55_X9_ways : Cond.fieldLink RX9 55 "GasVoyages" "wayCounter" "LGasVoyages$WayCounter;" ∈ wsX9_ways := by decide +kernel
set_option maxRecDepth 20000 in
theorem iw9_X9_ways : ∀ w ∈ u_ws RX9 TX9 8, w ∈ wsX9_ways := by decide +kernel
theorem mf25_X9_ways : Cond.fieldLink RX9 25 "GasVoyages" "flights" "[LGasVoyages$Flight;" ∈ wsX9_ways := by decide +kernel
theorem mc216_X9_ways : Cond.constant RX9 216 (1000000) ∈ wsX9_ways := by decide +kernel
theorem mf217_X9_ways : Cond.fieldLink RX9 217 "GasVoyages$WayCounter" "clean" "I" ∈ wsX9_ways := by decide +kernel
set_option maxRecDepth 20000 in
theorem iw7_X9_ways : ∀ w ∈ u_ws RX7 TX7 6, w ∈ wsX9_ways := by decide +kernel
theorem mf213_X9_ways : Cond.fieldLink RX9 213 "GasVoyages$WayCounter" "broken" "I" ∈ wsX9_ways := by decide +kernel
theorem ml220_X9_ways : Cond.methodLink RX9 220 Lib.Math.min.name ∈ wsX9_ways := by decide +kernel
theorem msmin_X9_ways : Cond.static Lib.Math.min.name ∈ wsX9_ways := by decide +kernel
theorem miM_X9_ways : Cond.initialized "java/lang/Math" ∈ wsX9_ways := by decide +kernel
theorem mkmin_X9_ways : Cond.code Lib.Math.min.name Lib.Math.min.code 2 (some .int) ∈ wsX9_ways := by decide +kernel
def f_X9_ways (σ : St) (p1 : Int32) (p2 : Int32) : Option (Int32 × St) := if (f_X9_isFlight σ p1) = 0 then (some ((-2), σ)) else (Option.bind (inB 8 p1) fun j3 => Option.bind (f_X7_follow σ (40 + 4 * j3)) fun s5 => if p2 = 0 then (some (if ((s5.1 19 4) + (s5.1 19 5)) < 1000000 then ((s5.1 19 4) + (s5.1 19 5)) else 1000000, s5)) else (some (s5.1 19 5, s5)))
set_option maxRecDepth 100000 in
set_option maxHeartbeats 4000000 in
theorem c_X9_ways (l : Launch) (G : Gp) (A : Nat → Prop) (σ : St) (p1 : Int32) (p2 : Int32) {r : Int32} {σ' : St} (h : f_X9_ways σ p1 p2 = some (r, σ')) : Ki l yX9_ways wsX9_ways 6 G A [.ref (ad G 0), .int p1, .int p2] σ r σ' := by
  unfold f_X9_ways at h
  refine r_start (ws := wsX9_ways) (d := 6) (by decide) rfl [.ref (ad G 0), .int p1, .int p2] (Nat.le_of_ble_eq_true rfl) ?_
  intro p e s m below meth c S hr hlocks hE hw ls hl
  have hl : lv_has ls 3 [(0, .ref (ad G 0)), (1, .int p1), (2, .int p2)] := hl
  obtain ⟨hx, hb, hml, hown, hts⟩ := id S
  refine lv_aload_n hx hb dX9_ways_0 rfl (lv_at hl 0 rfl) ?_
  refine lv_iload_n hx hb dX9_ways_1 rfl (lv_at hl 1 rfl) ?_
  refine r_cz (r_runV (k := 0) (ci := 9) (As := [.int p1]) (rest := []) S hE hw (c_X9_isFlight  l G A σ p1) (cwV 1 hts gX9_ways_X9_isFlight rfl rfl rfl (by decide +kernel) ⟨Nat.le_of_ble_eq_true rfl, Nat.le_of_ble_eq_true rfl⟩) rfl rfl (by decide) rfl hl.1 rfl (Nat.le_of_ble_eq_true rfl) ⟨Nat.zero_le _, Nat.zero_le _⟩ dX9_ways_2) hw (fun H locs hw hb1 => ?_)
  refine lv_if_ne (tgt := 11) hx hb dX9_ways_5 (by decide) (fun c2 => ?_) (fun c2 => ?_)
  · have h := if_f c2 h
    refine lv_aload_n hx hb dX9_ways_11 rfl (lv_at hl 0 rfl) ?_
    refine r_gr S hE hw 6 19 iw9_X9_ways rfl rfl (by decide) rfl (hts _ mf55_X9_ways) dX9_ways_12 ?_
    refine lv_aload_n hx hb dX9_ways_15 rfl (lv_at hl 0 rfl) ?_
    refine r_gr S hE hw 2 13 iw9_X9_ways rfl rfl (by decide) rfl (hts _ mf25_X9_ways) dX9_ways_16 ?_
    refine lv_iload_n hx hb dX9_ways_19 rfl (lv_at hl 1 rfl) ?_
    obtain ⟨j3, gj3, h⟩ := oB_out h
    refine r_rf S hE hw ⟨rfl, rfl⟩ gj3 dX9_ways_20 ?_
    have hf4 := kd_fl (inB_in gj3).2.2
    obtain ⟨s5, gs5, h⟩ := oB_out h
    refine r_cv (r_runV (k := 19) (ci := 7) (As := [.ref (ad G (40 + 4 * j3))]) (rest := []) S hE hw (c_X7_follow  l G A σ (40 + 4 * j3) hf4 gs5) (cwV 1 hts gX9_ways_X7_follow rfl rfl rfl (by decide +kernel) ⟨Nat.le_of_ble_eq_true rfl, Nat.le_of_ble_eq_true rfl⟩) rfl rfl (by decide) rfl hl.1 rfl (Nat.le_of_ble_eq_true rfl) ⟨Nat.zero_le _, Nat.zero_le _⟩ dX9_ways_21) hw (fun H locs hw => ?_)
    refine lv_iload_n hx hb dX9_ways_24 rfl (lv_at hl 2 rfl) ?_
    refine lv_if_eq (tgt := 38) hx hb dX9_ways_25 (by decide) (fun c6 => ?_) (fun c6 => ?_)
    · have h := if_t c6 h
      refine lv_ldc (v := 1000000) hx hb hown (hts _ mc216_X9_ways) dX9_ways_38 ?_
      refine lv_aload_n hx hb dX9_ways_40 rfl (lv_at hl 0 rfl) ?_
      refine r_gr S hE hw 6 19 iw9_X9_ways rfl rfl (by decide) rfl (hts _ mf55_X9_ways) dX9_ways_41 ?_
      refine r_gi S hE hw 4 iw7_X9_ways rfl rfl (by decide) (hts _ mf217_X9_ways) dX9_ways_44 ?_
      refine lv_aload_n hx hb dX9_ways_47 rfl (lv_at hl 0 rfl) ?_
      refine r_gr S hE hw 6 19 iw9_X9_ways rfl rfl (by decide) rfl (hts _ mf55_X9_ways) dX9_ways_48 ?_
      refine r_gi S hE hw 5 iw7_X9_ways rfl rfl (by decide) (hts _ mf213_X9_ways) dX9_ways_51 ?_
      refine lv_iadd hx hb dX9_ways_54 ?_
      refine va_mmin hx hb (hml.trans hl.1.symm) hown (hts _ ml220_X9_ways) (hts _ msmin_X9_ways) (hts _ miM_X9_ways) (hts _ mkmin_X9_ways) (Nat.le_of_ble_eq_true rfl) (Nat.le_of_ble_eq_true rfl) (Nat.zero_le _) (Nat.zero_le _) dX9_ways_55 ?_
      obtain ⟨rfl, rfl⟩ := rt2 h
      exact r_iret S hr hlocks hw dX9_ways_58
    · have h := if_f c6 h
      refine lv_aload_n hx hb dX9_ways_28 rfl (lv_at hl 0 rfl) ?_
      refine r_gr S hE hw 6 19 iw9_X9_ways rfl rfl (by decide) rfl (hts _ mf55_X9_ways) dX9_ways_29 ?_
      refine r_gi S hE hw 5 iw7_X9_ways rfl rfl (by decide) (hts _ mf213_X9_ways) dX9_ways_32 ?_
      refine lv_goto (tgt := 58) hx hb dX9_ways_35 (by decide) ?_
      obtain ⟨rfl, rfl⟩ := rt2 h
      exact r_iret S hr hlocks hw dX9_ways_58
  · have h := if_t c2 h
    refine lv_bipush (v := (-2)) hx hb dX9_ways_8 (by decide) ?_
    obtain ⟨rfl, rfl⟩ := rt2 h
    exact r_iret S hr hlocks hw dX9_ways_10


theorem mf12_X9_chaser : Cond.fieldLink RX9 12 "GasVoyages" "ground" "LGasVoyages$Land;" ∈ wsX9_chaser := by decide +kernel
set_option maxRecDepth 20000 in
theorem iw9_X9_chaser : ∀ w ∈ u_ws RX9 TX9 8, w ∈ wsX9_chaser := by decide +kernel
theorem mf92_X9_chaser : Cond.fieldLink RX9 92 "GasVoyages$Land" "kinds" "[I" ∈ wsX9_chaser := by decide +kernel
set_option maxRecDepth 20000 in
theorem iw5_X9_chaser : ∀ w ∈ u_ws RX5 TX5 3, w ∈ wsX9_chaser := by decide +kernel
theorem mf64_X9_chaser : Cond.fieldLink RX9 64 "GasVoyages" "chasers" "LGasVoyages$Chasers;" ∈ wsX9_chaser := by decide +kernel
theorem mf77_X9_chaser : Cond.fieldLink RX9 77 "GasVoyages$Chasers" "number" "I" ∈ wsX9_chaser := by decide +kernel
set_option maxRecDepth 20000 in
theorem iw2_X9_chaser : ∀ w ∈ u_ws RX2 TX2 6, w ∈ wsX9_chaser := by decide +kernel
def f_X9_chaser (σ : St) (p1 : Int32) (p2 : Int32) (p3 : Int32) : Option (Int32 × St) := if (f_X5_has σ p1 p2) = 0 then (some ((-2), σ)) else (if (f_X9_within p3 1 5) = 0 then (some ((-2), σ)) else (Option.bind (aL σ 2 576 (f_X9_cellOf p1 p2)) fun v5 => if v5 = 1 then (some ((-3), σ)) else (if (σ.1 28 3) < 4 then (Option.bind (f_X2_add σ (f_X9_cellOf p1 p2) p3) fun s8 => some ((s8.1 28 3) - 1, s8)) else (some ((-4), σ)))))
set_option maxRecDepth 100000 in
set_option maxHeartbeats 4000000 in
theorem c_X9_chaser (l : Launch) (G : Gp) (A : Nat → Prop) (σ : St) (p1 : Int32) (p2 : Int32) (p3 : Int32) {r : Int32} {σ' : St} (h : f_X9_chaser σ p1 p2 p3 = some (r, σ')) : Ki l yX9_chaser wsX9_chaser 2 G A [.ref (ad G 0), .int p1, .int p2, .int p3] σ r σ' := by
  unfold f_X9_chaser at h
  refine r_start (ws := wsX9_chaser) (d := 2) (by decide) rfl [.ref (ad G 0), .int p1, .int p2, .int p3] (Nat.le_of_ble_eq_true rfl) ?_
  intro p e s m below meth c S hr hlocks hE hw ls hl
  have hl : lv_has ls 5 [(0, .ref (ad G 0)), (1, .int p1), (2, .int p2), (3, .int p3)] := hl
  obtain ⟨hx, hb, hml, hown, hts⟩ := id S
  refine lv_aload_n hx hb dX9_chaser_0 rfl (lv_at hl 0 rfl) ?_
  refine r_gr S hE hw 0 1 iw9_X9_chaser rfl rfl (by decide) rfl (hts _ mf12_X9_chaser) dX9_chaser_1 ?_
  refine lv_iload_n hx hb dX9_chaser_4 rfl (lv_at hl 1 rfl) ?_
  refine lv_iload_n hx hb dX9_chaser_5 rfl (lv_at hl 2 rfl) ?_
  refine r_cz (r_runV (k := 1) (ci := 5) (As := [.int p1, .int p2]) (rest := []) S hE hw (c_X5_has  l G A σ p1 p2) (cwV 2 hts gX9_chaser_X5_has rfl rfl rfl (by decide +kernel) ⟨Nat.le_of_ble_eq_true rfl, Nat.le_of_ble_eq_true rfl⟩) rfl rfl (by decide) rfl hl.1 rfl (Nat.le_of_ble_eq_true rfl) ⟨Nat.zero_le _, Nat.zero_le _⟩ dX9_chaser_6) hw (fun H locs hw hb1 => ?_)
  refine lv_if_eq (tgt := 21) hx hb dX9_chaser_9 (by decide) (fun c2 => ?_) (fun c2 => ?_)
  · have h := if_t c2 h
    refine lv_bipush (v := (-2)) hx hb dX9_chaser_21 (by decide) ?_
    obtain ⟨rfl, rfl⟩ := rt2 h
    exact r_iret S hr hlocks hw dX9_chaser_23
  · have h := if_f c2 h
    refine lv_iload_n hx hb dX9_chaser_12 rfl (lv_at hl 3 rfl) ?_
    refine lv_iconst (v := 1) hx hb dX9_chaser_13 (by decide) ?_
    refine lv_iconst (v := 5) hx hb dX9_chaser_14 (by decide) ?_
    refine r_cz (r_runS (As := [.int p3, .int 1, .int 5]) (rest := []) S hE hw (c_X9_within  l G A σ p3 1 5) (va_cwS 3 hts gX9_chaser_X9_within rfl rfl rfl (by decide +kernel) ⟨Nat.le_of_ble_eq_true rfl, Nat.le_of_ble_eq_true rfl⟩) rfl hl.1 rfl (Nat.le_of_ble_eq_true rfl) ⟨Nat.zero_le _, Nat.zero_le _⟩ dX9_chaser_15) hw (fun H locs hw hb3 => ?_)
    refine lv_if_ne (tgt := 24) hx hb dX9_chaser_18 (by decide) (fun c4 => ?_) (fun c4 => ?_)
    · have h := if_f c4 h
      refine lv_iload_n hx hb dX9_chaser_24 rfl (lv_at hl 1 rfl) ?_
      refine lv_iload_n hx hb dX9_chaser_25 rfl (lv_at hl 2 rfl) ?_
      refine r_ci (r_runS (As := [.int p1, .int p2]) (rest := []) S hE hw (c_X9_cellOf  l G A σ p1 p2) (va_cwS 2 hts gX9_chaser_X9_cellOf rfl rfl rfl (by decide +kernel) ⟨Nat.le_of_ble_eq_true rfl, Nat.le_of_ble_eq_true rfl⟩) rfl hl.1 rfl (Nat.le_of_ble_eq_true rfl) ⟨Nat.zero_le _, Nat.zero_le _⟩ dX9_chaser_26) hw (fun H locs hw => ?_)
      refine lv_istore (lv' := [(4, .int (f_X9_cellOf p1 p2)), (0, .ref (ad G 0)), (1, .int p1), (2, .int p2), (3, .int p3)]) hx hb dX9_chaser_29 hl (by decide) rfl (fun ls hl => ?_)
      refine lv_aload_n hx hb dX9_chaser_31 rfl (lv_at hl 1 rfl) ?_
      refine r_gr S hE hw 0 1 iw9_X9_chaser rfl rfl (by decide) rfl (hts _ mf12_X9_chaser) dX9_chaser_32 ?_
      refine r_gr S hE hw 2 2 iw5_X9_chaser rfl rfl (by decide) rfl (hts _ mf92_X9_chaser) dX9_chaser_35 ?_
      refine lv_iload hx hb dX9_chaser_38 (lv_at hl 0 rfl) ?_
      obtain ⟨v5, gv5, h⟩ := oB_out h
      refine r_al S hE hw rfl rfl gv5 dX9_chaser_40 ?_
      refine lv_iconst (v := 1) hx hb dX9_chaser_41 (by decide) ?_
      refine lv_icmp_ne (tgt := 48) hx hb dX9_chaser_42 (by decide) (fun c6 => ?_) (fun c6 => ?_)
      · have h := if_f c6 h
        refine lv_aload_n hx hb dX9_chaser_48 rfl (lv_at hl 1 rfl) ?_
        refine r_gr S hE hw 7 28 iw9_X9_chaser rfl rfl (by decide) rfl (hts _ mf64_X9_chaser) dX9_chaser_49 ?_
        refine r_gi S hE hw 3 iw2_X9_chaser rfl rfl (by decide) (hts _ mf77_X9_chaser) dX9_chaser_52 ?_
        refine lv_iconst (v := 4) hx hb dX9_chaser_55 (by decide) ?_
        refine lv_icmp_lt (tgt := 62) hx hb dX9_chaser_56 (by decide) (fun c7 => ?_) (fun c7 => ?_)
        · have h := if_t c7 h
          refine lv_aload_n hx hb dX9_chaser_62 rfl (lv_at hl 1 rfl) ?_
          refine r_gr S hE hw 7 28 iw9_X9_chaser rfl rfl (by decide) rfl (hts _ mf64_X9_chaser) dX9_chaser_63 ?_
          refine lv_iload hx hb dX9_chaser_66 (lv_at hl 0 rfl) ?_
          refine lv_iload_n hx hb dX9_chaser_68 rfl (lv_at hl 4 rfl) ?_
          obtain ⟨s8, gs8, h⟩ := oB_out h
          refine r_cv (r_runV (k := 28) (ci := 2) (As := [.int (f_X9_cellOf p1 p2), .int p3]) (rest := []) S hE hw (c_X2_add  l G A σ (f_X9_cellOf p1 p2) p3 gs8) (cwV 2 hts gX9_chaser_X2_add rfl rfl rfl (by decide +kernel) ⟨Nat.le_of_ble_eq_true rfl, Nat.le_of_ble_eq_true rfl⟩) rfl rfl (by decide) rfl hl.1 rfl (Nat.le_of_ble_eq_true rfl) ⟨Nat.zero_le _, Nat.zero_le _⟩ dX9_chaser_69) hw (fun H locs hw => ?_)
          refine lv_aload_n hx hb dX9_chaser_72 rfl (lv_at hl 1 rfl) ?_
          refine r_gr S hE hw 7 28 iw9_X9_chaser rfl rfl (by decide) rfl (hts _ mf64_X9_chaser) dX9_chaser_73 ?_
          refine r_gi S hE hw 3 iw2_X9_chaser rfl rfl (by decide) (hts _ mf77_X9_chaser) dX9_chaser_76 ?_
          refine lv_iconst (v := 1) hx hb dX9_chaser_79 (by decide) ?_
          refine lv_isub hx hb dX9_chaser_80 ?_
          obtain ⟨rfl, rfl⟩ := rt2 h
          exact r_iret S hr hlocks hw dX9_chaser_81
        · have h := if_f c7 h
          refine lv_bipush (v := (-4)) hx hb dX9_chaser_59 (by decide) ?_
          obtain ⟨rfl, rfl⟩ := rt2 h
          exact r_iret S hr hlocks hw dX9_chaser_61
      · have h := if_t c6 h
        refine lv_bipush (v := (-3)) hx hb dX9_chaser_45 (by decide) ?_
        obtain ⟨rfl, rfl⟩ := rt2 h
        exact r_iret S hr hlocks hw dX9_chaser_47
    · have h := if_t c4 h
      refine lv_bipush (v := (-2)) hx hb dX9_chaser_21 (by decide) ?_
      obtain ⟨rfl, rfl⟩ := rt2 h
      exact r_iret S hr hlocks hw dX9_chaser_23


theorem mf64_X9_chase : Cond.fieldLink RX9 64 "GasVoyages" "chasers" "LGasVoyages$Chasers;" ∈ wsX9_chase := by decide +kernel
set_option maxRecDepth 20000 in
theorem iw9_X9_chase : ∀ w ∈ u_ws RX9 TX9 8, w ∈ wsX9_chase := by decide +kernel
theorem mf77_X9_chase : Cond.fieldLink RX9 77 "GasVoyages$Chasers" "number" "I" ∈ wsX9_chase := by decide +kernel
set_option maxRecDepth 20000 in
theorem iw2_X9_chase : ∀ w ∈ u_ws RX2 TX2 6, w ∈ wsX9_chase := by decide +kernel
theorem mf12_X9_chase : Cond.fieldLink RX9 12 "GasVoyages" "ground" "LGasVoyages$Land;" ∈ wsX9_chase := by decide +kernel
def f_X9_chase (σ : St) (p1 : Int32) (p2 : Int32) (p3 : Int32) : Option (Int32 × St) := if (f_X9_within p1 0 ((σ.1 28 3) - 1)) = 0 then (some ((-2), σ)) else (if (f_X5_has σ p2 p3) = 0 then (some ((-2), σ)) else (Option.bind (f_X2_measureFrom σ (f_X9_cellOf p2 p3)) fun s5 => Option.bind (f_X2_ticksOf s5 p1) fun v6 => some (v6, s5)))
set_option maxRecDepth 100000 in
set_option maxHeartbeats 4000000 in
theorem c_X9_chase (l : Launch) (G : Gp) (A : Nat → Prop) (σ : St) (p1 : Int32) (p2 : Int32) (p3 : Int32) {r : Int32} {σ' : St} (h : f_X9_chase σ p1 p2 p3 = some (r, σ')) : Ki l yX9_chase wsX9_chase 5 G A [.ref (ad G 0), .int p1, .int p2, .int p3] σ r σ' := by
  unfold f_X9_chase at h
  refine r_start (ws := wsX9_chase) (d := 5) (by decide) rfl [.ref (ad G 0), .int p1, .int p2, .int p3] (Nat.le_of_ble_eq_true rfl) ?_
  intro p e s m below meth c S hr hlocks hE hw ls hl
  have hl : lv_has ls 4 [(0, .ref (ad G 0)), (1, .int p1), (2, .int p2), (3, .int p3)] := hl
  obtain ⟨hx, hb, hml, hown, hts⟩ := id S
  refine lv_iload_n hx hb dX9_chase_0 rfl (lv_at hl 1 rfl) ?_
  refine lv_iconst (v := 0) hx hb dX9_chase_1 (by decide) ?_
  refine lv_aload_n hx hb dX9_chase_2 rfl (lv_at hl 0 rfl) ?_
  refine r_gr S hE hw 7 28 iw9_X9_chase rfl rfl (by decide) rfl (hts _ mf64_X9_chase) dX9_chase_3 ?_
  refine r_gi S hE hw 3 iw2_X9_chase rfl rfl (by decide) (hts _ mf77_X9_chase) dX9_chase_6 ?_
  refine lv_iconst (v := 1) hx hb dX9_chase_9 (by decide) ?_
  refine lv_isub hx hb dX9_chase_10 ?_
  refine r_cz (r_runS (As := [.int p1, .int 0, .int ((σ.1 28 3) - 1)]) (rest := []) S hE hw (c_X9_within  l G A σ p1 0 ((σ.1 28 3) - 1)) (va_cwS 3 hts gX9_chase_X9_within rfl rfl rfl (by decide +kernel) ⟨Nat.le_of_ble_eq_true rfl, Nat.le_of_ble_eq_true rfl⟩) rfl hl.1 rfl (Nat.le_of_ble_eq_true rfl) ⟨Nat.zero_le _, Nat.zero_le _⟩ dX9_chase_11) hw (fun H locs hw hb1 => ?_)
  refine lv_if_eq (tgt := 29) hx hb dX9_chase_14 (by decide) (fun c2 => ?_) (fun c2 => ?_)
  · have h := if_t c2 h
    refine lv_bipush (v := (-2)) hx hb dX9_chase_29 (by decide) ?_
    obtain ⟨rfl, rfl⟩ := rt2 h
    exact r_iret S hr hlocks hw dX9_chase_31
  · have h := if_f c2 h
    refine lv_aload_n hx hb dX9_chase_17 rfl (lv_at hl 0 rfl) ?_
    refine r_gr S hE hw 0 1 iw9_X9_chase rfl rfl (by decide) rfl (hts _ mf12_X9_chase) dX9_chase_18 ?_
    refine lv_iload_n hx hb dX9_chase_21 rfl (lv_at hl 2 rfl) ?_
    refine lv_iload_n hx hb dX9_chase_22 rfl (lv_at hl 3 rfl) ?_
    refine r_cz (r_runV (k := 1) (ci := 5) (As := [.int p2, .int p3]) (rest := []) S hE hw (c_X5_has  l G A σ p2 p3) (cwV 2 hts gX9_chase_X5_has rfl rfl rfl (by decide +kernel) ⟨Nat.le_of_ble_eq_true rfl, Nat.le_of_ble_eq_true rfl⟩) rfl rfl (by decide) rfl hl.1 rfl (Nat.le_of_ble_eq_true rfl) ⟨Nat.zero_le _, Nat.zero_le _⟩ dX9_chase_23) hw (fun H locs hw hb3 => ?_)
    refine lv_if_ne (tgt := 32) hx hb dX9_chase_26 (by decide) (fun c4 => ?_) (fun c4 => ?_)
    · have h := if_f c4 h
      refine lv_aload_n hx hb dX9_chase_32 rfl (lv_at hl 0 rfl) ?_
      refine r_gr S hE hw 7 28 iw9_X9_chase rfl rfl (by decide) rfl (hts _ mf64_X9_chase) dX9_chase_33 ?_
      refine lv_iload_n hx hb dX9_chase_36 rfl (lv_at hl 2 rfl) ?_
      refine lv_iload_n hx hb dX9_chase_37 rfl (lv_at hl 3 rfl) ?_
      refine r_ci (r_runS (As := [.int p2, .int p3]) (rest := [.ref (ad G 28)]) S hE hw (c_X9_cellOf  l G A σ p2 p3) (va_cwS 2 hts gX9_chase_X9_cellOf rfl rfl rfl (by decide +kernel) ⟨Nat.le_of_ble_eq_true rfl, Nat.le_of_ble_eq_true rfl⟩) rfl hl.1 rfl (Nat.le_of_ble_eq_true rfl) ⟨Nat.zero_le _, Nat.zero_le _⟩ dX9_chase_38) hw (fun H locs hw => ?_)
      obtain ⟨s5, gs5, h⟩ := oB_out h
      refine r_cv (r_runV (k := 28) (ci := 2) (As := [.int (f_X9_cellOf p2 p3)]) (rest := []) S hE hw (c_X2_measureFrom  l G A σ (f_X9_cellOf p2 p3) gs5) (cwV 1 hts gX9_chase_X2_measureFrom rfl rfl rfl (by decide +kernel) ⟨Nat.le_of_ble_eq_true rfl, Nat.le_of_ble_eq_true rfl⟩) rfl rfl (by decide) rfl hl.1 rfl (Nat.le_of_ble_eq_true rfl) ⟨Nat.zero_le _, Nat.zero_le _⟩ dX9_chase_41) hw (fun H locs hw => ?_)
      refine lv_aload_n hx hb dX9_chase_44 rfl (lv_at hl 0 rfl) ?_
      refine r_gr S hE hw 7 28 iw9_X9_chase rfl rfl (by decide) rfl (hts _ mf64_X9_chase) dX9_chase_45 ?_
      refine lv_iload_n hx hb dX9_chase_48 rfl (lv_at hl 1 rfl) ?_
      obtain ⟨v6, gv6, h⟩ := oB_out h
      refine r_ci (r_runV (k := 28) (ci := 2) (As := [.int p1]) (rest := []) S hE hw (c_X2_ticksOf  l G A s5 p1 gv6) (cwV 1 hts gX9_chase_X2_ticksOf rfl rfl rfl (by decide +kernel) ⟨Nat.le_of_ble_eq_true rfl, Nat.le_of_ble_eq_true rfl⟩) rfl rfl (by decide) rfl hl.1 rfl (Nat.le_of_ble_eq_true rfl) ⟨Nat.zero_le _, Nat.zero_le _⟩ dX9_chase_49) hw (fun H locs hw => ?_)
      obtain ⟨rfl, rfl⟩ := rt2 h
      exact r_iret S hr hlocks hw dX9_chase_52
    · have h := if_t c4 h
      refine lv_bipush (v := (-2)) hx hb dX9_chase_29 (by decide) ?_
      obtain ⟨rfl, rfl⟩ := rt2 h
      exact r_iret S hr hlocks hw dX9_chase_31


theorem mf64_X9_first : Cond.fieldLink RX9 64 "GasVoyages" "chasers" "LGasVoyages$Chasers;" ∈ wsX9_first := by decide +kernel
set_option maxRecDepth 20000 in
theorem iw9_X9_first : ∀ w ∈ u_ws RX9 TX9 8, w ∈ wsX9_first := by decide +kernel
theorem mf25_X9_first : Cond.fieldLink RX9 25 "GasVoyages" "flights" "[LGasVoyages$Flight;" ∈ wsX9_first := by decide +kernel
theorem mf121_X9_first : Cond.fieldLink RX9 121 "GasVoyages$Flight" "balloon" "LGasVoyages$Balloon;" ∈ wsX9_first := by decide +kernel
set_option maxRecDepth 20000 in
theorem iw3_X9_first : ∀ w ∈ u_ws RX3 TX3 7, w ∈ wsX9_first := by decide +kernel
theorem mf142_X9_first : Cond.fieldLink RX9 142 "GasVoyages$Balloon" "cell" "I" ∈ wsX9_first := by decide +kernel
set_option maxRecDepth 20000 in
theorem iw1_X9_first : ∀ w ∈ u_ws RX1 TX1 8, w ∈ wsX9_first := by decide +kernel
def f_X9_first (σ : St) (p1 : Int32) : Option (Int32 × St) := if (f_X9_isFlight σ p1) = 0 then (some ((-2), σ)) else (Option.bind (inB 8 p1) fun j3 => Option.bind (f_X2_measureFrom σ (σ.1 ((40 + 4 * j3) + 1) 0)) fun s5 => Option.bind (f_X2_soonest s5) fun v6 => some (v6, s5))
set_option maxRecDepth 100000 in
set_option maxHeartbeats 4000000 in
theorem c_X9_first (l : Launch) (G : Gp) (A : Nat → Prop) (σ : St) (p1 : Int32) {r : Int32} {σ' : St} (h : f_X9_first σ p1 = some (r, σ')) : Ki l yX9_first wsX9_first 5 G A [.ref (ad G 0), .int p1] σ r σ' := by
  unfold f_X9_first at h
  refine r_start (ws := wsX9_first) (d := 5) (by decide) rfl [.ref (ad G 0), .int p1] (Nat.le_of_ble_eq_true rfl) ?_
  intro p e s m below meth c S hr hlocks hE hw ls hl
  have hl : lv_has ls 2 [(0, .ref (ad G 0)), (1, .int p1)] := hl
  obtain ⟨hx, hb, hml, hown, hts⟩ := id S
  refine lv_aload_n hx hb dX9_first_0 rfl (lv_at hl 0 rfl) ?_
  refine lv_iload_n hx hb dX9_first_1 rfl (lv_at hl 1 rfl) ?_
  refine r_cz (r_runV (k := 0) (ci := 9) (As := [.int p1]) (rest := []) S hE hw (c_X9_isFlight  l G A σ p1) (cwV 1 hts gX9_first_X9_isFlight rfl rfl rfl (by decide +kernel) ⟨Nat.le_of_ble_eq_true rfl, Nat.le_of_ble_eq_true rfl⟩) rfl rfl (by decide) rfl hl.1 rfl (Nat.le_of_ble_eq_true rfl) ⟨Nat.zero_le _, Nat.zero_le _⟩ dX9_first_2) hw (fun H locs hw hb1 => ?_)
  refine lv_if_ne (tgt := 11) hx hb dX9_first_5 (by decide) (fun c2 => ?_) (fun c2 => ?_)
  · have h := if_f c2 h
    refine lv_aload_n hx hb dX9_first_11 rfl (lv_at hl 0 rfl) ?_
    refine r_gr S hE hw 7 28 iw9_X9_first rfl rfl (by decide) rfl (hts _ mf64_X9_first) dX9_first_12 ?_
    refine lv_aload_n hx hb dX9_first_15 rfl (lv_at hl 0 rfl) ?_
    refine r_gr S hE hw 2 13 iw9_X9_first rfl rfl (by decide) rfl (hts _ mf25_X9_first) dX9_first_16 ?_
    refine lv_iload_n hx hb dX9_first_19 rfl (lv_at hl 1 rfl) ?_
    obtain ⟨j3, gj3, h⟩ := oB_out h
    refine r_rf S hE hw ⟨rfl, rfl⟩ gj3 dX9_first_20 ?_
    have hf4 := kd_fl (inB_in gj3).2.2
    refine r_gr S hE hw 0 ((40 + 4 * j3) + 1) iw3_X9_first hf4 rfl (by decide) rfl (hts _ mf121_X9_first) dX9_first_21 ?_
    refine r_gi S hE hw 0 iw1_X9_first (kf_b hf4) rfl (by decide) (hts _ mf142_X9_first) dX9_first_24 ?_
    obtain ⟨s5, gs5, h⟩ := oB_out h
    refine r_cv (r_runV (k := 28) (ci := 2) (As := [.int (σ.1 ((40 + 4 * j3) + 1) 0)]) (rest := []) S hE hw (c_X2_measureFrom  l G A σ (σ.1 ((40 + 4 * j3) + 1) 0) gs5) (cwV 1 hts gX9_first_X2_measureFrom rfl rfl rfl (by decide +kernel) ⟨Nat.le_of_ble_eq_true rfl, Nat.le_of_ble_eq_true rfl⟩) rfl rfl (by decide) rfl hl.1 rfl (Nat.le_of_ble_eq_true rfl) ⟨Nat.zero_le _, Nat.zero_le _⟩ dX9_first_27) hw (fun H locs hw => ?_)
    refine lv_aload_n hx hb dX9_first_30 rfl (lv_at hl 0 rfl) ?_
    refine r_gr S hE hw 7 28 iw9_X9_first rfl rfl (by decide) rfl (hts _ mf64_X9_first) dX9_first_31 ?_
    obtain ⟨v6, gv6, h⟩ := oB_out h
    refine r_ci (r_runV (k := 28) (ci := 2) (As := []) (rest := []) S hE hw (c_X2_soonest  l G A s5  gv6) (cwV 0 hts gX9_first_X2_soonest rfl rfl rfl (by decide +kernel) ⟨Nat.le_of_ble_eq_true rfl, Nat.le_of_ble_eq_true rfl⟩) rfl rfl (by decide) rfl hl.1 rfl (Nat.le_of_ble_eq_true rfl) ⟨Nat.zero_le _, Nat.zero_le _⟩ dX9_first_34) hw (fun H locs hw => ?_)
    obtain ⟨rfl, rfl⟩ := rt2 h
    exact r_iret S hr hlocks hw dX9_first_37
  · have h := if_t c2 h
    refine lv_bipush (v := (-2)) hx hb dX9_first_8 (by decide) ?_
    obtain ⟨rfl, rfl⟩ := rt2 h
    exact r_iret S hr hlocks hw dX9_first_10


theorem mf25_X9_isAhead : Cond.fieldLink RX9 25 "GasVoyages" "flights" "[LGasVoyages$Flight;" ∈ wsX9_isAhead := by decide +kernel
set_option maxRecDepth 20000 in
theorem iw9_X9_isAhead : ∀ w ∈ u_ws RX9 TX9 8, w ∈ wsX9_isAhead := by decide +kernel
theorem mf131_X9_isAhead : Cond.fieldLink RX9 131 "GasVoyages$Flight" "entries" "I" ∈ wsX9_isAhead := by decide +kernel
set_option maxRecDepth 20000 in
theorem iw3_X9_isAhead : ∀ w ∈ u_ws RX3 TX3 7, w ∈ wsX9_isAhead := by decide +kernel
def f_X9_isAhead (σ : St) (p1 : Int32) (p2 : Int32) : Option Int32 := Option.bind (inB 8 p1) fun j1 => Option.bind (f_X3_flown σ (40 + 4 * j1)) fun v3 => Option.bind (inB 8 p2) fun j4 => Option.bind (f_X3_flown σ (40 + 4 * j4)) fun v6 => if (v3 - v6) = 0 then (Option.bind (inB 8 p1) fun j8 => Option.bind (inB 8 p2) fun j10 => if ((σ.1 (40 + 4 * j8) 3) - (σ.1 (40 + 4 * j10) 3)) = 0 then (if p2 ≤ p1 then (some 0) else (some 1)) else (if 0 ≤ ((σ.1 (40 + 4 * j8) 3) - (σ.1 (40 + 4 * j10) 3)) then (some 0) else (some 1))) else (if (v3 - v6) ≤ 0 then (some 0) else (some 1))
set_option maxRecDepth 100000 in
set_option maxHeartbeats 4000000 in
theorem c_X9_isAhead (l : Launch) (G : Gp) (A : Nat → Prop) (σ : St) (p1 : Int32) (p2 : Int32) {r : Int32} (h : f_X9_isAhead σ p1 p2 = some r) : Kz l yX9_isAhead wsX9_isAhead 3 G A [.ref (ad G 0), .int p1, .int p2] σ r σ := by
  unfold f_X9_isAhead at h
  refine r_start (ws := wsX9_isAhead) (d := 3) (by decide) rfl [.ref (ad G 0), .int p1, .int p2] (Nat.le_of_ble_eq_true rfl) ?_
  intro p e s m below meth c S hr hlocks hE hw ls hl
  have hl : lv_has ls 5 [(0, .ref (ad G 0)), (1, .int p1), (2, .int p2)] := hl
  obtain ⟨hx, hb, hml, hown, hts⟩ := id S
  refine lv_aload_n hx hb dX9_isAhead_0 rfl (lv_at hl 0 rfl) ?_
  refine r_gr S hE hw 2 13 iw9_X9_isAhead rfl rfl (by decide) rfl (hts _ mf25_X9_isAhead) dX9_isAhead_1 ?_
  refine lv_iload_n hx hb dX9_isAhead_4 rfl (lv_at hl 1 rfl) ?_
  obtain ⟨j1, gj1, h⟩ := oB_out h
  refine r_rf S hE hw ⟨rfl, rfl⟩ gj1 dX9_isAhead_5 ?_
  have hf2 := kd_fl (inB_in gj1).2.2
  obtain ⟨v3, gv3, h⟩ := oB_out h
  refine r_ci (r_runV (k := 40 + 4 * j1) (ci := 3) (As := []) (rest := []) S hE hw (c_X3_flown  l G A σ (40 + 4 * j1) hf2 gv3) (cwV 0 hts gX9_isAhead_X3_flown rfl rfl rfl (by decide +kernel) ⟨Nat.le_of_ble_eq_true rfl, Nat.le_of_ble_eq_true rfl⟩) hf2 rfl (by decide) rfl hl.1 rfl (Nat.le_of_ble_eq_true rfl) ⟨Nat.zero_le _, Nat.zero_le _⟩ dX9_isAhead_6) hw (fun H locs hw => ?_)
  refine lv_aload_n hx hb dX9_isAhead_9 rfl (lv_at hl 0 rfl) ?_
  refine r_gr S hE hw 2 13 iw9_X9_isAhead rfl rfl (by decide) rfl (hts _ mf25_X9_isAhead) dX9_isAhead_10 ?_
  refine lv_iload_n hx hb dX9_isAhead_13 rfl (lv_at hl 2 rfl) ?_
  obtain ⟨j4, gj4, h⟩ := oB_out h
  refine r_rf S hE hw ⟨rfl, rfl⟩ gj4 dX9_isAhead_14 ?_
  have hf5 := kd_fl (inB_in gj4).2.2
  obtain ⟨v6, gv6, h⟩ := oB_out h
  refine r_ci (r_runV (k := 40 + 4 * j4) (ci := 3) (As := []) (rest := [.int v3]) S hE hw (c_X3_flown  l G A σ (40 + 4 * j4) hf5 gv6) (cwV 0 hts gX9_isAhead_X3_flown rfl rfl rfl (by decide +kernel) ⟨Nat.le_of_ble_eq_true rfl, Nat.le_of_ble_eq_true rfl⟩) hf5 rfl (by decide) rfl hl.1 rfl (Nat.le_of_ble_eq_true rfl) ⟨Nat.zero_le _, Nat.zero_le _⟩ dX9_isAhead_15) hw (fun H locs hw => ?_)
  refine lv_isub hx hb dX9_isAhead_18 ?_
  refine lv_istore_n (lv' := [(3, .int (v3 - v6)), (0, .ref (ad G 0)), (1, .int p1), (2, .int p2)]) hx hb dX9_isAhead_19 rfl hl (by decide) rfl (fun ls hl => ?_)
  refine lv_iload_n hx hb dX9_isAhead_20 rfl (lv_at hl 0 rfl) ?_
  refine lv_if_eq (tgt := 34) hx hb dX9_isAhead_21 (by decide) (fun c7 => ?_) (fun c7 => ?_)
  · have h := if_t c7 h
    refine lv_aload_n hx hb dX9_isAhead_34 rfl (lv_at hl 1 rfl) ?_
    refine r_gr S hE hw 2 13 iw9_X9_isAhead rfl rfl (by decide) rfl (hts _ mf25_X9_isAhead) dX9_isAhead_35 ?_
    refine lv_iload_n hx hb dX9_isAhead_38 rfl (lv_at hl 2 rfl) ?_
    obtain ⟨j8, gj8, h⟩ := oB_out h
    refine r_rf S hE hw ⟨rfl, rfl⟩ gj8 dX9_isAhead_39 ?_
    have hf9 := kd_fl (inB_in gj8).2.2
    refine r_gi S hE hw 3 iw3_X9_isAhead hf9 rfl (by decide) (hts _ mf131_X9_isAhead) dX9_isAhead_40 ?_
    refine lv_aload_n hx hb dX9_isAhead_43 rfl (lv_at hl 1 rfl) ?_
    refine r_gr S hE hw 2 13 iw9_X9_isAhead rfl rfl (by decide) rfl (hts _ mf25_X9_isAhead) dX9_isAhead_44 ?_
    refine lv_iload_n hx hb dX9_isAhead_47 rfl (lv_at hl 3 rfl) ?_
    obtain ⟨j10, gj10, h⟩ := oB_out h
    refine r_rf S hE hw ⟨rfl, rfl⟩ gj10 dX9_isAhead_48 ?_
    have hf11 := kd_fl (inB_in gj10).2.2
    refine r_gi S hE hw 3 iw3_X9_isAhead hf11 rfl (by decide) (hts _ mf131_X9_isAhead) dX9_isAhead_49 ?_
    refine lv_isub hx hb dX9_isAhead_52 ?_
    refine lv_istore (lv' := [(4, .int ((σ.1 (40 + 4 * j8) 3) - (σ.1 (40 + 4 * j10) 3))), (3, .int (v3 - v6)), (0, .ref (ad G 0)), (1, .int p1), (2, .int p2)]) hx hb dX9_isAhead_53 hl (by decide) rfl (fun ls hl => ?_)
    refine lv_iload hx hb dX9_isAhead_55 (lv_at hl 0 rfl) ?_
    refine lv_if_eq (tgt := 73) hx hb dX9_isAhead_57 (by decide) (fun c12 => ?_) (fun c12 => ?_)
    · have h := if_t c12 h
      refine lv_iload_n hx hb dX9_isAhead_73 rfl (lv_at hl 3 rfl) ?_
      refine lv_iload_n hx hb dX9_isAhead_74 rfl (lv_at hl 4 rfl) ?_
      refine lv_icmp_ge (tgt := 82) hx hb dX9_isAhead_75 (by decide) (fun c13 => ?_) (fun c13 => ?_)
      · have h := if_t c13 h
        refine lv_iconst (v := 0) hx hb dX9_isAhead_82 (by decide) ?_
        obtain rfl := Option.some.inj h
        exact r_zret S hr hlocks hw (Or.inl rfl) dX9_isAhead_83
      · have h := if_f c13 h
        refine lv_iconst (v := 1) hx hb dX9_isAhead_78 (by decide) ?_
        refine lv_goto (tgt := 83) hx hb dX9_isAhead_79 (by decide) ?_
        obtain rfl := Option.some.inj h
        exact r_zret S hr hlocks hw (Or.inr rfl) dX9_isAhead_83
    · have h := if_f c12 h
      refine lv_iload hx hb dX9_isAhead_60 (lv_at hl 0 rfl) ?_
      refine lv_if_ge (tgt := 69) hx hb dX9_isAhead_62 (by decide) (fun c14 => ?_) (fun c14 => ?_)
      · have h := if_t c14 h
        refine lv_iconst (v := 0) hx hb dX9_isAhead_69 (by decide) ?_
        refine lv_goto (tgt := 83) hx hb dX9_isAhead_70 (by decide) ?_
        obtain rfl := Option.some.inj h
        exact r_zret S hr hlocks hw (Or.inl rfl) dX9_isAhead_83
      · have h := if_f c14 h
        refine lv_iconst (v := 1) hx hb dX9_isAhead_65 (by decide) ?_
        refine lv_goto (tgt := 83) hx hb dX9_isAhead_66 (by decide) ?_
        obtain rfl := Option.some.inj h
        exact r_zret S hr hlocks hw (Or.inr rfl) dX9_isAhead_83
  · have h := if_f c7 h
    refine lv_iload_n hx hb dX9_isAhead_24 rfl (lv_at hl 0 rfl) ?_
    refine lv_if_le (tgt := 32) hx hb dX9_isAhead_25 (by decide) (fun c15 => ?_) (fun c15 => ?_)
    · have h := if_t c15 h
      refine lv_iconst (v := 0) hx hb dX9_isAhead_32 (by decide) ?_
      obtain rfl := Option.some.inj h
      exact r_zret S hr hlocks hw (Or.inl rfl) dX9_isAhead_33
    · have h := if_f c15 h
      refine lv_iconst (v := 1) hx hb dX9_isAhead_28 (by decide) ?_
      refine lv_goto (tgt := 33) hx hb dX9_isAhead_29 (by decide) ?_
      obtain rfl := Option.some.inj h
      exact r_zret S hr hlocks hw (Or.inr rfl) dX9_isAhead_33


theorem mf33_X9_countAheadOf : Cond.fieldLink RX9 33 "GasVoyages" "flightCount" "I" ∈ wsX9_countAheadOf := by decide +kernel
set_option maxRecDepth 20000 in
theorem iw9_X9_countAheadOf : ∀ w ∈ u_ws RX9 TX9 8, w ∈ wsX9_countAheadOf := by decide +kernel
theorem mf29_X9_countAheadOf : Cond.fieldLink RX9 29 "GasVoyages" "ranked" "[Z" ∈ wsX9_countAheadOf := by decide +kernel
def f_X9_countAheadOf_4 : Nat → St → Int32 → Int32 → Int32 → Option Int32
  | 0, _, _, _, _ => none
  | n + 1, σ, x1, x2, x3 => if (σ.1 0 4) ≤ x3 then (some x2) else (if x3 = x1 then (f_X9_countAheadOf_4 n σ x1 x2 (x3 + 1)) else (Option.bind (aL σ 14 8 x3) fun v3 => if v3 = 0 then (f_X9_countAheadOf_4 n σ x1 x2 (x3 + 1)) else (Option.bind (f_X9_isAhead σ x3 x1) fun v5 => if v5 = 0 then (f_X9_countAheadOf_4 n σ x1 x2 (x3 + 1)) else (f_X9_countAheadOf_4 n σ x1 (x2 + 1) (x3 + 1)))))
set_option maxRecDepth 100000 in
set_option maxHeartbeats 4000000 in
theorem w_X9_countAheadOf_4 {p : Program} {l : Launch} {e : Env} {s : State} {m : MethodId} {args : Array Value} {below : List Frame} {meth : Method} {c : Code} {G : Gp} {A : Nat → Prop} (S : CallFix p m c cX9_countAheadOf 4 s args wsX9_countAheadOf RX9) (hr : meth.sig.returnType = (some .int)) (hlocks : meth.locks = false) (hE : Ev G A s) (n : Nat) (σ : St) (x1 : Int32) (x2 : Int32) (x3 : Int32) {r : Int32} (h : f_X9_countAheadOf_4   n σ x1 x2 x3 = some r) {H : Heap} {locs : List Loc} {ls : Array Slot} (hw : Ww G A σ s H locs) (hl : lv_has ls 4 [(0, .ref (ad G 0)), (1, .int x1), (2, .int x2), (3, .int x3)]) : W p l e (rmd 4) s m args below meth c H locs 0 0 (Qi below args s G A r σ) (F0 m 4 ls []) := by
  obtain ⟨hx, hb, hml, hown, hts⟩ := id S
  induction n generalizing σ x1 x2 x3 r  H locs ls with
  | zero => cases h
  | succ n ih =>
    unfold f_X9_countAheadOf_4 at h
    refine lv_iload_n hx hb dX9_countAheadOf_4 rfl (lv_at hl 3 rfl) ?_
    refine lv_aload_n hx hb dX9_countAheadOf_5 rfl (lv_at hl 0 rfl) ?_
    refine r_gi S hE hw 4 iw9_X9_countAheadOf rfl rfl (by decide) (hts _ mf33_X9_countAheadOf) dX9_countAheadOf_6 ?_
    refine lv_icmp_ge (tgt := 44) hx hb dX9_countAheadOf_9 (by decide) (fun c1 => ?_) (fun c1 => ?_)
    · have h := if_t c1 h
      refine lv_iload_n hx hb dX9_countAheadOf_44 rfl (lv_at hl 2 rfl) ?_
      obtain rfl := Option.some.inj h
      exact r_iret S hr hlocks hw dX9_countAheadOf_45
    · have h := if_f c1 h
      refine lv_iload_n hx hb dX9_countAheadOf_12 rfl (lv_at hl 3 rfl) ?_
      refine lv_iload_n hx hb dX9_countAheadOf_13 rfl (lv_at hl 1 rfl) ?_
      refine lv_icmp_eq (tgt := 38) hx hb dX9_countAheadOf_14 (by decide) (fun c2 => ?_) (fun c2 => ?_)
      · have h := if_t c2 h
        refine lv_iinc (v := x3 + 1) (lv' := [(3, .int (x3 + 1)), (0, .ref (ad G 0)), (1, .int x1), (2, .int x2)]) hx hb dX9_countAheadOf_38 hl (k := 3) rfl rfl (by decide) rfl (fun ls hl => ?_)
        refine lv_goto (tgt := 4) hx hb dX9_countAheadOf_41 (by decide) ?_
        exact ih σ x1 x2 (x3 + 1) h hw (lv_sub hl [1, 2, 3, 0] rfl)
      · have h := if_f c2 h
        refine lv_aload_n hx hb dX9_countAheadOf_17 rfl (lv_at hl 0 rfl) ?_
        refine r_gr S hE hw 3 14 iw9_X9_countAheadOf rfl rfl (by decide) rfl (hts _ mf29_X9_countAheadOf) dX9_countAheadOf_18 ?_
        refine lv_iload_n hx hb dX9_countAheadOf_21 rfl (lv_at hl 3 rfl) ?_
        obtain ⟨v3, gv3, h⟩ := oB_out h
        refine r_zl S hE hw rfl rfl gv3 dX9_countAheadOf_22 ?_
        refine lv_if_eq (tgt := 38) hx hb dX9_countAheadOf_23 (by decide) (fun c4 => ?_) (fun c4 => ?_)
        · have h := if_t c4 h
          refine lv_iinc (v := x3 + 1) (lv' := [(3, .int (x3 + 1)), (0, .ref (ad G 0)), (1, .int x1), (2, .int x2)]) hx hb dX9_countAheadOf_38 hl (k := 3) rfl rfl (by decide) rfl (fun ls hl => ?_)
          refine lv_goto (tgt := 4) hx hb dX9_countAheadOf_41 (by decide) ?_
          exact ih σ x1 x2 (x3 + 1) h hw (lv_sub hl [1, 2, 3, 0] rfl)
        · have h := if_f c4 h
          refine lv_aload_n hx hb dX9_countAheadOf_26 rfl (lv_at hl 0 rfl) ?_
          refine lv_iload_n hx hb dX9_countAheadOf_27 rfl (lv_at hl 3 rfl) ?_
          refine lv_iload_n hx hb dX9_countAheadOf_28 rfl (lv_at hl 1 rfl) ?_
          obtain ⟨v5, gv5, h⟩ := oB_out h
          refine r_cz (r_runV (k := 0) (ci := 9) (As := [.int x3, .int x1]) (rest := []) S hE hw (c_X9_isAhead  l G A σ x3 x1 gv5) (cwV 2 hts gX9_countAheadOf_X9_isAhead rfl rfl rfl (by decide +kernel) ⟨Nat.le_of_ble_eq_true rfl, Nat.le_of_ble_eq_true rfl⟩) rfl rfl (by decide) rfl hl.1 rfl (Nat.le_of_ble_eq_true rfl) ⟨Nat.zero_le _, Nat.zero_le _⟩ dX9_countAheadOf_29) hw (fun H locs hw hb6 => ?_)
          refine lv_if_eq (tgt := 38) hx hb dX9_countAheadOf_32 (by decide) (fun c7 => ?_) (fun c7 => ?_)
          · have h := if_t c7 h
            refine lv_iinc (v := x3 + 1) (lv' := [(3, .int (x3 + 1)), (0, .ref (ad G 0)), (1, .int x1), (2, .int x2)]) hx hb dX9_countAheadOf_38 hl (k := 3) rfl rfl (by decide) rfl (fun ls hl => ?_)
            refine lv_goto (tgt := 4) hx hb dX9_countAheadOf_41 (by decide) ?_
            exact ih σ x1 x2 (x3 + 1) h hw (lv_sub hl [1, 2, 3, 0] rfl)
          · have h := if_f c7 h
            refine lv_iinc (v := x2 + 1) (lv' := [(2, .int (x2 + 1)), (0, .ref (ad G 0)), (1, .int x1), (3, .int x3)]) hx hb dX9_countAheadOf_35 hl (k := 2) rfl rfl (by decide) rfl (fun ls hl => ?_)
            refine lv_iinc (v := x3 + 1) (lv' := [(3, .int (x3 + 1)), (2, .int (x2 + 1)), (0, .ref (ad G 0)), (1, .int x1)]) hx hb dX9_countAheadOf_38 hl (k := 3) rfl rfl (by decide) rfl (fun ls hl => ?_)
            refine lv_goto (tgt := 4) hx hb dX9_countAheadOf_41 (by decide) ?_
            exact ih σ x1 (x2 + 1) (x3 + 1) h hw (lv_sub hl [2, 3, 1, 0] rfl)

def f_X9_countAheadOf (σ : St) (p1 : Int32) : Option Int32 := f_X9_countAheadOf_4 10000 σ p1 0 0
set_option maxRecDepth 100000 in
set_option maxHeartbeats 4000000 in
theorem c_X9_countAheadOf (l : Launch) (G : Gp) (A : Nat → Prop) (σ : St) (p1 : Int32) {r : Int32} (h : f_X9_countAheadOf σ p1 = some r) : Ki l yX9_countAheadOf wsX9_countAheadOf 4 G A [.ref (ad G 0), .int p1] σ r σ := by
  unfold f_X9_countAheadOf at h
  refine r_start (ws := wsX9_countAheadOf) (d := 4) (by decide) rfl [.ref (ad G 0), .int p1] (Nat.le_of_ble_eq_true rfl) ?_
  intro p e s m below meth c S hr hlocks hE hw ls hl
  have hl : lv_has ls 4 [(0, .ref (ad G 0)), (1, .int p1)] := hl
  obtain ⟨hx, hb, hml, hown, hts⟩ := id S
  refine lv_iconst (v := 0) hx hb dX9_countAheadOf_0 (by decide) ?_
  refine lv_istore_n (lv' := [(2, .int 0), (0, .ref (ad G 0)), (1, .int p1)]) hx hb dX9_countAheadOf_1 rfl hl (by decide) rfl (fun ls hl => ?_)
  refine lv_iconst (v := 0) hx hb dX9_countAheadOf_2 (by decide) ?_
  refine lv_istore_n (lv' := [(3, .int 0), (2, .int 0), (0, .ref (ad G 0)), (1, .int p1)]) hx hb dX9_countAheadOf_3 rfl hl (by decide) rfl (fun ls hl => ?_)
  exact w_X9_countAheadOf_4   S hr hlocks hE  10000 σ p1 0 0 h hw (lv_sub hl [2, 3, 1, 0] rfl)


theorem mf33_X9_record : Cond.fieldLink RX9 33 "GasVoyages" "flightCount" "I" ∈ wsX9_record := by decide +kernel
set_option maxRecDepth 20000 in
theorem iw9_X9_record : ∀ w ∈ u_ws RX9 TX9 8, w ∈ wsX9_record := by decide +kernel
theorem mf29_X9_record : Cond.fieldLink RX9 29 "GasVoyages" "ranked" "[Z" ∈ wsX9_record := by decide +kernel
theorem mf25_X9_record : Cond.fieldLink RX9 25 "GasVoyages" "flights" "[LGasVoyages$Flight;" ∈ wsX9_record := by decide +kernel
theorem mf121_X9_record : Cond.fieldLink RX9 121 "GasVoyages$Flight" "balloon" "LGasVoyages$Balloon;" ∈ wsX9_record := by decide +kernel
set_option maxRecDepth 20000 in
theorem iw3_X9_record : ∀ w ∈ u_ws RX3 TX3 7, w ∈ wsX9_record := by decide +kernel
theorem mf125_X9_record : Cond.fieldLink RX9 125 "GasVoyages$Balloon" "landed" "Z" ∈ wsX9_record := by decide +kernel
set_option maxRecDepth 20000 in
theorem iw1_X9_record : ∀ w ∈ u_ws RX1 TX1 8, w ∈ wsX9_record := by decide +kernel
def f_X9_record_59 : Nat → St → Int32 → Int32 → Option (Int32 × St)
  | 0, _, _, _ => none
  | n + 1, σ, x1, x2 => if (σ.1 0 4) ≤ x2 then (some ((-1), σ)) else (Option.bind (aL σ 14 8 x2) fun v2 => if v2 = 0 then (f_X9_record_59 n σ x1 (x2 + 1)) else (Option.bind (f_X9_countAheadOf σ x2) fun v4 => if v4 = x1 then (some (x2, σ)) else (f_X9_record_59 n σ x1 (x2 + 1))))
set_option maxRecDepth 100000 in
set_option maxHeartbeats 4000000 in
theorem w_X9_record_59 {p : Program} {l : Launch} {e : Env} {s : State} {m : MethodId} {args : Array Value} {below : List Frame} {meth : Method} {c : Code} {G : Gp} {A : Nat → Prop} (S : CallFix p m c cX9_record 3 s args wsX9_record RX9) (hr : meth.sig.returnType = (some .int)) (hlocks : meth.locks = false) (hE : Ev G A s) (n : Nat) (σ : St) (x1 : Int32) (x2 : Int32) {r : Int32} {σ' : St} (h : f_X9_record_59   n σ x1 x2 = some (r, σ')) {H : Heap} {locs : List Loc} {ls : Array Slot} (hw : Ww G A σ s H locs) (hl : lv_has ls 3 [(0, .ref (ad G 0)), (1, .int x1), (2, .int x2)]) : W p l e (rmd 7) s m args below meth c H locs 0 0 (Qi below args s G A r σ') (F0 m 59 ls []) := by
  obtain ⟨hx, hb, hml, hown, hts⟩ := id S
  induction n generalizing σ x1 x2 r σ' H locs ls with
  | zero => cases h
  | succ n ih =>
    unfold f_X9_record_59 at h
    refine lv_iload_n hx hb dX9_record_59 rfl (lv_at hl 2 rfl) ?_
    refine lv_aload_n hx hb dX9_record_60 rfl (lv_at hl 0 rfl) ?_
    refine r_gi S hE hw 4 iw9_X9_record rfl rfl (by decide) (hts _ mf33_X9_record) dX9_record_61 ?_
    refine lv_icmp_ge (tgt := 93) hx hb dX9_record_64 (by decide) (fun c1 => ?_) (fun c1 => ?_)
    · have h := if_t c1 h
      refine lv_iconst (v := (-1)) hx hb dX9_record_93 (by decide) ?_
      obtain ⟨rfl, rfl⟩ := rt2 h
      exact r_iret S hr hlocks hw dX9_record_94
    · have h := if_f c1 h
      refine lv_aload_n hx hb dX9_record_67 rfl (lv_at hl 0 rfl) ?_
      refine r_gr S hE hw 3 14 iw9_X9_record rfl rfl (by decide) rfl (hts _ mf29_X9_record) dX9_record_68 ?_
      refine lv_iload_n hx hb dX9_record_71 rfl (lv_at hl 2 rfl) ?_
      obtain ⟨v2, gv2, h⟩ := oB_out h
      refine r_zl S hE hw rfl rfl gv2 dX9_record_72 ?_
      refine lv_if_eq (tgt := 87) hx hb dX9_record_73 (by decide) (fun c3 => ?_) (fun c3 => ?_)
      · have h := if_t c3 h
        refine lv_iinc (v := x2 + 1) (lv' := [(2, .int (x2 + 1)), (0, .ref (ad G 0)), (1, .int x1)]) hx hb dX9_record_87 hl (k := 2) rfl rfl (by decide) rfl (fun ls hl => ?_)
        refine lv_goto (tgt := 59) hx hb dX9_record_90 (by decide) ?_
        exact ih σ x1 (x2 + 1) h hw (lv_sub hl [1, 2, 0] rfl)
      · have h := if_f c3 h
        refine lv_aload_n hx hb dX9_record_76 rfl (lv_at hl 0 rfl) ?_
        refine lv_iload_n hx hb dX9_record_77 rfl (lv_at hl 2 rfl) ?_
        obtain ⟨v4, gv4, h⟩ := oB_out h
        refine r_ci (r_runV (k := 0) (ci := 9) (As := [.int x2]) (rest := []) S hE hw (c_X9_countAheadOf  l G A σ x2 gv4) (cwV 1 hts gX9_record_X9_countAheadOf rfl rfl rfl (by decide +kernel) ⟨Nat.le_of_ble_eq_true rfl, Nat.le_of_ble_eq_true rfl⟩) rfl rfl (by decide) rfl hl.1 rfl (Nat.le_of_ble_eq_true rfl) ⟨Nat.zero_le _, Nat.zero_le _⟩ dX9_record_78) hw (fun H locs hw => ?_)
        refine lv_iload_n hx hb dX9_record_81 rfl (lv_at hl 1 rfl) ?_
        refine lv_icmp_ne (tgt := 87) hx hb dX9_record_82 (by decide) (fun c5 => ?_) (fun c5 => ?_)
        · have h := if_f c5 h
          refine lv_iinc (v := x2 + 1) (lv' := [(2, .int (x2 + 1)), (0, .ref (ad G 0)), (1, .int x1)]) hx hb dX9_record_87 hl (k := 2) rfl rfl (by decide) rfl (fun ls hl => ?_)
          refine lv_goto (tgt := 59) hx hb dX9_record_90 (by decide) ?_
          exact ih σ x1 (x2 + 1) h hw (lv_sub hl [1, 2, 0] rfl)
        · have h := if_t c5 h
          refine lv_iload_n hx hb dX9_record_85 rfl (lv_at hl 2 rfl) ?_
          obtain ⟨rfl, rfl⟩ := rt2 h
          exact r_iret S hr hlocks hw dX9_record_86

def f_X9_record_9 : Nat → St → Int32 → Int32 → Option (Int32 × St)
  | 0, _, _, _ => none
  | n + 1, σ, x1, x2 => if (σ.1 0 4) ≤ x2 then (f_X9_record_59 10000 σ x1 0) else (Option.bind (inB 8 x2) fun j2 => if (σ.1 ((40 + 4 * j2) + 1) 7) = 0 then (Option.bind (aS σ 14 8 x2 (vp_nar .boolean 0)) fun s5 => f_X9_record_9 n s5 x1 (x2 + 1)) else (oB2 (f_X9_judge σ x2) fun v6 s7 => if v6 = 0 then (Option.bind (aS s7 14 8 x2 (vp_nar .boolean 1)) fun s10 => f_X9_record_9 n s10 x1 (x2 + 1)) else (Option.bind (aS s7 14 8 x2 (vp_nar .boolean 0)) fun s9 => f_X9_record_9 n s9 x1 (x2 + 1))))
set_option maxRecDepth 100000 in
set_option maxHeartbeats 4000000 in
theorem w_X9_record_9 {p : Program} {l : Launch} {e : Env} {s : State} {m : MethodId} {args : Array Value} {below : List Frame} {meth : Method} {c : Code} {G : Gp} {A : Nat → Prop} (S : CallFix p m c cX9_record 3 s args wsX9_record RX9) (hr : meth.sig.returnType = (some .int)) (hlocks : meth.locks = false) (hE : Ev G A s) (n : Nat) (σ : St) (x1 : Int32) (x2 : Int32) {r : Int32} {σ' : St} (h : f_X9_record_9   n σ x1 x2 = some (r, σ')) {H : Heap} {locs : List Loc} {ls : Array Slot} (hw : Ww G A σ s H locs) (hl : lv_has ls 3 [(0, .ref (ad G 0)), (1, .int x1), (2, .int x2)]) : W p l e (rmd 7) s m args below meth c H locs 0 0 (Qi below args s G A r σ') (F0 m 9 ls []) := by
  obtain ⟨hx, hb, hml, hown, hts⟩ := id S
  induction n generalizing σ x1 x2 r σ' H locs ls with
  | zero => cases h
  | succ n ih =>
    unfold f_X9_record_9 at h
    refine lv_iload_n hx hb dX9_record_9 rfl (lv_at hl 2 rfl) ?_
    refine lv_aload_n hx hb dX9_record_10 rfl (lv_at hl 0 rfl) ?_
    refine r_gi S hE hw 4 iw9_X9_record rfl rfl (by decide) (hts _ mf33_X9_record) dX9_record_11 ?_
    refine lv_icmp_ge (tgt := 57) hx hb dX9_record_14 (by decide) (fun c1 => ?_) (fun c1 => ?_)
    · have h := if_t c1 h
      refine lv_iconst (v := 0) hx hb dX9_record_57 (by decide) ?_
      refine lv_istore_n (lv' := [(2, .int 0), (0, .ref (ad G 0)), (1, .int x1)]) hx hb dX9_record_58 rfl hl (by decide) rfl (fun ls hl => ?_)
      exact w_X9_record_59   S hr hlocks hE  10000 σ x1 0 h hw (lv_sub hl [1, 2, 0] rfl)
    · have h := if_f c1 h
      refine lv_aload_n hx hb dX9_record_17 rfl (lv_at hl 0 rfl) ?_
      refine r_gr S hE hw 3 14 iw9_X9_record rfl rfl (by decide) rfl (hts _ mf29_X9_record) dX9_record_18 ?_
      refine lv_iload_n hx hb dX9_record_21 rfl (lv_at hl 2 rfl) ?_
      refine lv_aload_n hx hb dX9_record_22 rfl (lv_at hl 0 rfl) ?_
      refine r_gr S hE hw 2 13 iw9_X9_record rfl rfl (by decide) rfl (hts _ mf25_X9_record) dX9_record_23 ?_
      refine lv_iload_n hx hb dX9_record_26 rfl (lv_at hl 2 rfl) ?_
      obtain ⟨j2, gj2, h⟩ := oB_out h
      refine r_rf S hE hw ⟨rfl, rfl⟩ gj2 dX9_record_27 ?_
      have hf3 := kd_fl (inB_in gj2).2.2
      refine r_gr S hE hw 0 ((40 + 4 * j2) + 1) iw3_X9_record hf3 rfl (by decide) rfl (hts _ mf121_X9_record) dX9_record_28 ?_
      refine r_gi S hE hw 7 iw1_X9_record (kf_b hf3) rfl (by decide) (hts _ mf125_X9_record) dX9_record_31 ?_
      refine lv_if_eq (tgt := 49) hx hb dX9_record_34 (by decide) (fun c4 => ?_) (fun c4 => ?_)
      · have h := if_t c4 h
        refine lv_iconst (v := 0) hx hb dX9_record_49 (by decide) ?_
        obtain ⟨s5, gs5, h⟩ := oB_out h
        refine r_zs S hE hw rfl rfl gs5 dX9_record_50 (fun H locs hw => ?_)
        refine lv_iinc (v := x2 + 1) (lv' := [(2, .int (x2 + 1)), (0, .ref (ad G 0)), (1, .int x1)]) hx hb dX9_record_51 hl (k := 2) rfl rfl (by decide) rfl (fun ls hl => ?_)
        refine lv_goto (tgt := 9) hx hb dX9_record_54 (by decide) ?_
        exact ih s5 x1 (x2 + 1) h hw (lv_sub hl [1, 2, 0] rfl)
      · have h := if_f c4 h
        refine lv_aload_n hx hb dX9_record_37 rfl (lv_at hl 0 rfl) ?_
        refine lv_iload_n hx hb dX9_record_38 rfl (lv_at hl 2 rfl) ?_
        obtain ⟨v6, s7, gv6, h⟩ := oB2_out h
        refine r_ci (r_runV (k := 0) (ci := 9) (As := [.int x2]) (rest := [.int x2, .ref (ad G 14)]) S hE hw (c_X9_judge  l G A σ x2 gv6) (cwV 1 hts gX9_record_X9_judge rfl rfl rfl (by decide +kernel) ⟨Nat.le_of_ble_eq_true rfl, Nat.le_of_ble_eq_true rfl⟩) rfl rfl (by decide) rfl hl.1 rfl (Nat.le_of_ble_eq_true rfl) ⟨Nat.zero_le _, Nat.zero_le _⟩ dX9_record_39) hw (fun H locs hw => ?_)
        refine lv_if_ne (tgt := 49) hx hb dX9_record_42 (by decide) (fun c8 => ?_) (fun c8 => ?_)
        · have h := if_f c8 h
          refine lv_iconst (v := 0) hx hb dX9_record_49 (by decide) ?_
          obtain ⟨s9, gs9, h⟩ := oB_out h
          refine r_zs S hE hw rfl rfl gs9 dX9_record_50 (fun H locs hw => ?_)
          refine lv_iinc (v := x2 + 1) (lv' := [(2, .int (x2 + 1)), (0, .ref (ad G 0)), (1, .int x1)]) hx hb dX9_record_51 hl (k := 2) rfl rfl (by decide) rfl (fun ls hl => ?_)
          refine lv_goto (tgt := 9) hx hb dX9_record_54 (by decide) ?_
          exact ih s9 x1 (x2 + 1) h hw (lv_sub hl [1, 2, 0] rfl)
        · have h := if_t c8 h
          refine lv_iconst (v := 1) hx hb dX9_record_45 (by decide) ?_
          refine lv_goto (tgt := 50) hx hb dX9_record_46 (by decide) ?_
          obtain ⟨s10, gs10, h⟩ := oB_out h
          refine r_zs S hE hw rfl rfl gs10 dX9_record_50 (fun H locs hw => ?_)
          refine lv_iinc (v := x2 + 1) (lv' := [(2, .int (x2 + 1)), (0, .ref (ad G 0)), (1, .int x1)]) hx hb dX9_record_51 hl (k := 2) rfl rfl (by decide) rfl (fun ls hl => ?_)
          refine lv_goto (tgt := 9) hx hb dX9_record_54 (by decide) ?_
          exact ih s10 x1 (x2 + 1) h hw (lv_sub hl [1, 2, 0] rfl)

def f_X9_record (σ : St) (p1 : Int32) : Option (Int32 × St) := if 0 ≤ p1 then (f_X9_record_9 10000 σ p1 0) else (some ((-2), σ))
set_option maxRecDepth 100000 in
set_option maxHeartbeats 4000000 in
theorem c_X9_record (l : Launch) (G : Gp) (A : Nat → Prop) (σ : St) (p1 : Int32) {r : Int32} {σ' : St} (h : f_X9_record σ p1 = some (r, σ')) : Ki l yX9_record wsX9_record 7 G A [.ref (ad G 0), .int p1] σ r σ' := by
  unfold f_X9_record at h
  refine r_start (ws := wsX9_record) (d := 7) (by decide) rfl [.ref (ad G 0), .int p1] (Nat.le_of_ble_eq_true rfl) ?_
  intro p e s m below meth c S hr hlocks hE hw ls hl
  have hl : lv_has ls 3 [(0, .ref (ad G 0)), (1, .int p1)] := hl
  obtain ⟨hx, hb, hml, hown, hts⟩ := id S
  refine lv_iload_n hx hb dX9_record_0 rfl (lv_at hl 1 rfl) ?_
  refine lv_if_ge (tgt := 7) hx hb dX9_record_1 (by decide) (fun c1 => ?_) (fun c1 => ?_)
  · have h := if_t c1 h
    refine lv_iconst (v := 0) hx hb dX9_record_7 (by decide) ?_
    refine lv_istore_n (lv' := [(2, .int 0), (0, .ref (ad G 0)), (1, .int p1)]) hx hb dX9_record_8 rfl hl (by decide) rfl (fun ls hl => ?_)
    exact w_X9_record_9   S hr hlocks hE  10000 σ p1 0 h hw (lv_sub hl [1, 2, 0] rfl)
  · have h := if_f c1 h
    refine lv_bipush (v := (-2)) hx hb dX9_record_4 (by decide) ?_
    obtain ⟨rfl, rfl⟩ := rt2 h
    exact r_iret S hr hlocks hw dX9_record_6


theorem mf33_X9_countGoing : Cond.fieldLink RX9 33 "GasVoyages" "flightCount" "I" ∈ wsX9_countGoing := by decide +kernel
set_option maxRecDepth 20000 in
theorem iw9_X9_countGoing : ∀ w ∈ u_ws RX9 TX9 8, w ∈ wsX9_countGoing := by decide +kernel
theorem mf25_X9_countGoing : Cond.fieldLink RX9 25 "GasVoyages" "flights" "[LGasVoyages$Flight;" ∈ wsX9_countGoing := by decide +kernel
theorem mf121_X9_countGoing : Cond.fieldLink RX9 121 "GasVoyages$Flight" "balloon" "LGasVoyages$Balloon;" ∈ wsX9_countGoing := by decide +kernel
set_option maxRecDepth 20000 in
theorem iw3_X9_countGoing : ∀ w ∈ u_ws RX3 TX3 7, w ∈ wsX9_countGoing := by decide +kernel
theorem mf125_X9_countGoing : Cond.fieldLink RX9 125 "GasVoyages$Balloon" "landed" "Z" ∈ wsX9_countGoing := by decide +kernel
set_option maxRecDepth 20000 in
theorem iw1_X9_countGoing : ∀ w ∈ u_ws RX1 TX1 8, w ∈ wsX9_countGoing := by decide +kernel
def f_X9_countGoing_4 : Nat → St → Int32 → Int32 → Option Int32
  | 0, _, _, _ => none
  | n + 1, σ, x1, x2 => if (σ.1 0 4) ≤ x2 then (some x1) else (Option.bind (inB 8 x2) fun j2 => if (σ.1 ((40 + 4 * j2) + 1) 7) = 0 then (f_X9_countGoing_4 n σ (x1 + 1) (x2 + 1)) else (f_X9_countGoing_4 n σ x1 (x2 + 1)))
set_option maxRecDepth 100000 in
set_option maxHeartbeats 4000000 in
theorem w_X9_countGoing_4 {p : Program} {l : Launch} {e : Env} {s : State} {m : MethodId} {args : Array Value} {below : List Frame} {meth : Method} {c : Code} {G : Gp} {A : Nat → Prop} (S : CallFix p m c cX9_countGoing 3 s args wsX9_countGoing RX9) (hr : meth.sig.returnType = (some .int)) (hlocks : meth.locks = false) (hE : Ev G A s) (n : Nat) (σ : St) (x1 : Int32) (x2 : Int32) {r : Int32} (h : f_X9_countGoing_4   n σ x1 x2 = some r) {H : Heap} {locs : List Loc} {ls : Array Slot} (hw : Ww G A σ s H locs) (hl : lv_has ls 3 [(0, .ref (ad G 0)), (1, .int x1), (2, .int x2)]) : W p l e (rmd 0) s m args below meth c H locs 0 0 (Qi below args s G A r σ) (F0 m 4 ls []) := by
  obtain ⟨hx, hb, hml, hown, hts⟩ := id S
  induction n generalizing σ x1 x2 r  H locs ls with
  | zero => cases h
  | succ n ih =>
    unfold f_X9_countGoing_4 at h
    refine lv_iload_n hx hb dX9_countGoing_4 rfl (lv_at hl 2 rfl) ?_
    refine lv_aload_n hx hb dX9_countGoing_5 rfl (lv_at hl 0 rfl) ?_
    refine r_gi S hE hw 4 iw9_X9_countGoing rfl rfl (by decide) (hts _ mf33_X9_countGoing) dX9_countGoing_6 ?_
    refine lv_icmp_ge (tgt := 36) hx hb dX9_countGoing_9 (by decide) (fun c1 => ?_) (fun c1 => ?_)
    · have h := if_t c1 h
      refine lv_iload_n hx hb dX9_countGoing_36 rfl (lv_at hl 1 rfl) ?_
      obtain rfl := Option.some.inj h
      exact r_iret S hr hlocks hw dX9_countGoing_37
    · have h := if_f c1 h
      refine lv_aload_n hx hb dX9_countGoing_12 rfl (lv_at hl 0 rfl) ?_
      refine r_gr S hE hw 2 13 iw9_X9_countGoing rfl rfl (by decide) rfl (hts _ mf25_X9_countGoing) dX9_countGoing_13 ?_
      refine lv_iload_n hx hb dX9_countGoing_16 rfl (lv_at hl 2 rfl) ?_
      obtain ⟨j2, gj2, h⟩ := oB_out h
      refine r_rf S hE hw ⟨rfl, rfl⟩ gj2 dX9_countGoing_17 ?_
      have hf3 := kd_fl (inB_in gj2).2.2
      refine r_gr S hE hw 0 ((40 + 4 * j2) + 1) iw3_X9_countGoing hf3 rfl (by decide) rfl (hts _ mf121_X9_countGoing) dX9_countGoing_18 ?_
      refine r_gi S hE hw 7 iw1_X9_countGoing (kf_b hf3) rfl (by decide) (hts _ mf125_X9_countGoing) dX9_countGoing_21 ?_
      refine lv_if_ne (tgt := 30) hx hb dX9_countGoing_24 (by decide) (fun c4 => ?_) (fun c4 => ?_)
      · have h := if_f c4 h
        refine lv_iinc (v := x2 + 1) (lv' := [(2, .int (x2 + 1)), (0, .ref (ad G 0)), (1, .int x1)]) hx hb dX9_countGoing_30 hl (k := 2) rfl rfl (by decide) rfl (fun ls hl => ?_)
        refine lv_goto (tgt := 4) hx hb dX9_countGoing_33 (by decide) ?_
        exact ih σ x1 (x2 + 1) h hw (lv_sub hl [1, 2, 0] rfl)
      · have h := if_t c4 h
        refine lv_iinc (v := x1 + 1) (lv' := [(1, .int (x1 + 1)), (0, .ref (ad G 0)), (2, .int x2)]) hx hb dX9_countGoing_27 hl (k := 1) rfl rfl (by decide) rfl (fun ls hl => ?_)
        refine lv_iinc (v := x2 + 1) (lv' := [(2, .int (x2 + 1)), (1, .int (x1 + 1)), (0, .ref (ad G 0))]) hx hb dX9_countGoing_30 hl (k := 2) rfl rfl (by decide) rfl (fun ls hl => ?_)
        refine lv_goto (tgt := 4) hx hb dX9_countGoing_33 (by decide) ?_
        exact ih σ (x1 + 1) (x2 + 1) h hw (lv_sub hl [2, 1, 0] rfl)

def f_X9_countGoing (σ : St) : Option Int32 := f_X9_countGoing_4 10000 σ 0 0
set_option maxRecDepth 100000 in
set_option maxHeartbeats 4000000 in
theorem c_X9_countGoing (l : Launch) (G : Gp) (A : Nat → Prop) (σ : St) {r : Int32} (h : f_X9_countGoing σ  = some r) : Ki l yX9_countGoing wsX9_countGoing 0 G A [.ref (ad G 0)] σ r σ := by
  unfold f_X9_countGoing at h
  refine r_start (ws := wsX9_countGoing) (d := 0) (by decide) rfl [.ref (ad G 0)] (Nat.le_of_ble_eq_true rfl) ?_
  intro p e s m below meth c S hr hlocks hE hw ls hl
  have hl : lv_has ls 3 [(0, .ref (ad G 0))] := hl
  obtain ⟨hx, hb, hml, hown, hts⟩ := id S
  refine lv_iconst (v := 0) hx hb dX9_countGoing_0 (by decide) ?_
  refine lv_istore_n (lv' := [(1, .int 0), (0, .ref (ad G 0))]) hx hb dX9_countGoing_1 rfl hl (by decide) rfl (fun ls hl => ?_)
  refine lv_iconst (v := 0) hx hb dX9_countGoing_2 (by decide) ?_
  refine lv_istore_n (lv' := [(2, .int 0), (1, .int 0), (0, .ref (ad G 0))]) hx hb dX9_countGoing_3 rfl hl (by decide) rfl (fun ls hl => ?_)
  exact w_X9_countGoing_4   S hr hlocks hE  10000 σ 0 0 h hw (lv_sub hl [2, 1, 0] rfl)


theorem mf33_X9_countLost : Cond.fieldLink RX9 33 "GasVoyages" "flightCount" "I" ∈ wsX9_countLost := by decide +kernel
set_option maxRecDepth 20000 in
theorem iw9_X9_countLost : ∀ w ∈ u_ws RX9 TX9 8, w ∈ wsX9_countLost := by decide +kernel
theorem mf25_X9_countLost : Cond.fieldLink RX9 25 "GasVoyages" "flights" "[LGasVoyages$Flight;" ∈ wsX9_countLost := by decide +kernel
theorem mf283_X9_countLost : Cond.fieldLink RX9 283 "GasVoyages$Flight" "lostCount" "I" ∈ wsX9_countLost := by decide +kernel
set_option maxRecDepth 20000 in
theorem iw3_X9_countLost : ∀ w ∈ u_ws RX3 TX3 7, w ∈ wsX9_countLost := by decide +kernel
def f_X9_countLost_4 : Nat → St → Int32 → Int32 → Option Int32
  | 0, _, _, _ => none
  | n + 1, σ, x1, x2 => if (σ.1 0 4) ≤ x2 then (some x1) else (Option.bind (inB 8 x2) fun j2 => f_X9_countLost_4 n σ (x1 + (σ.1 (40 + 4 * j2) 4)) (x2 + 1))
set_option maxRecDepth 100000 in
set_option maxHeartbeats 4000000 in
theorem w_X9_countLost_4 {p : Program} {l : Launch} {e : Env} {s : State} {m : MethodId} {args : Array Value} {below : List Frame} {meth : Method} {c : Code} {G : Gp} {A : Nat → Prop} (S : CallFix p m c cX9_countLost 3 s args wsX9_countLost RX9) (hr : meth.sig.returnType = (some .int)) (hlocks : meth.locks = false) (hE : Ev G A s) (n : Nat) (σ : St) (x1 : Int32) (x2 : Int32) {r : Int32} (h : f_X9_countLost_4   n σ x1 x2 = some r) {H : Heap} {locs : List Loc} {ls : Array Slot} (hw : Ww G A σ s H locs) (hl : lv_has ls 3 [(0, .ref (ad G 0)), (1, .int x1), (2, .int x2)]) : W p l e (rmd 0) s m args below meth c H locs 0 0 (Qi below args s G A r σ) (F0 m 4 ls []) := by
  obtain ⟨hx, hb, hml, hown, hts⟩ := id S
  induction n generalizing σ x1 x2 r  H locs ls with
  | zero => cases h
  | succ n ih =>
    unfold f_X9_countLost_4 at h
    refine lv_iload_n hx hb dX9_countLost_4 rfl (lv_at hl 2 rfl) ?_
    refine lv_aload_n hx hb dX9_countLost_5 rfl (lv_at hl 0 rfl) ?_
    refine r_gi S hE hw 4 iw9_X9_countLost rfl rfl (by decide) (hts _ mf33_X9_countLost) dX9_countLost_6 ?_
    refine lv_icmp_ge (tgt := 30) hx hb dX9_countLost_9 (by decide) (fun c1 => ?_) (fun c1 => ?_)
    · have h := if_t c1 h
      refine lv_iload_n hx hb dX9_countLost_30 rfl (lv_at hl 1 rfl) ?_
      obtain rfl := Option.some.inj h
      exact r_iret S hr hlocks hw dX9_countLost_31
    · have h := if_f c1 h
      refine lv_iload_n hx hb dX9_countLost_12 rfl (lv_at hl 1 rfl) ?_
      refine lv_aload_n hx hb dX9_countLost_13 rfl (lv_at hl 0 rfl) ?_
      refine r_gr S hE hw 2 13 iw9_X9_countLost rfl rfl (by decide) rfl (hts _ mf25_X9_countLost) dX9_countLost_14 ?_
      refine lv_iload_n hx hb dX9_countLost_17 rfl (lv_at hl 2 rfl) ?_
      obtain ⟨j2, gj2, h⟩ := oB_out h
      refine r_rf S hE hw ⟨rfl, rfl⟩ gj2 dX9_countLost_18 ?_
      have hf3 := kd_fl (inB_in gj2).2.2
      refine r_gi S hE hw 4 iw3_X9_countLost hf3 rfl (by decide) (hts _ mf283_X9_countLost) dX9_countLost_19 ?_
      refine lv_iadd hx hb dX9_countLost_22 ?_
      refine lv_istore_n (lv' := [(1, .int (x1 + (σ.1 (40 + 4 * j2) 4))), (0, .ref (ad G 0)), (2, .int x2)]) hx hb dX9_countLost_23 rfl hl (by decide) rfl (fun ls hl => ?_)
      refine lv_iinc (v := x2 + 1) (lv' := [(2, .int (x2 + 1)), (1, .int (x1 + (σ.1 (40 + 4 * j2) 4))), (0, .ref (ad G 0))]) hx hb dX9_countLost_24 hl (k := 2) rfl rfl (by decide) rfl (fun ls hl => ?_)
      refine lv_goto (tgt := 4) hx hb dX9_countLost_27 (by decide) ?_
      exact ih σ (x1 + (σ.1 (40 + 4 * j2) 4)) (x2 + 1) h hw (lv_sub hl [2, 1, 0] rfl)

def f_X9_countLost (σ : St) : Option Int32 := f_X9_countLost_4 10000 σ 0 0
set_option maxRecDepth 100000 in
set_option maxHeartbeats 4000000 in
theorem c_X9_countLost (l : Launch) (G : Gp) (A : Nat → Prop) (σ : St) {r : Int32} (h : f_X9_countLost σ  = some r) : Ki l yX9_countLost wsX9_countLost 0 G A [.ref (ad G 0)] σ r σ := by
  unfold f_X9_countLost at h
  refine r_start (ws := wsX9_countLost) (d := 0) (by decide) rfl [.ref (ad G 0)] (Nat.le_of_ble_eq_true rfl) ?_
  intro p e s m below meth c S hr hlocks hE hw ls hl
  have hl : lv_has ls 3 [(0, .ref (ad G 0))] := hl
  obtain ⟨hx, hb, hml, hown, hts⟩ := id S
  refine lv_iconst (v := 0) hx hb dX9_countLost_0 (by decide) ?_
  refine lv_istore_n (lv' := [(1, .int 0), (0, .ref (ad G 0))]) hx hb dX9_countLost_1 rfl hl (by decide) rfl (fun ls hl => ?_)
  refine lv_iconst (v := 0) hx hb dX9_countLost_2 (by decide) ?_
  refine lv_istore_n (lv' := [(2, .int 0), (1, .int 0), (0, .ref (ad G 0))]) hx hb dX9_countLost_3 rfl hl (by decide) rfl (fun ls hl => ?_)
  exact w_X9_countLost_4   S hr hlocks hE  10000 σ 0 0 h hw (lv_sub hl [2, 1, 0] rfl)


theorem mf12_X9_count : Cond.fieldLink RX9 12 "GasVoyages" "ground" "LGasVoyages$Land;" ∈ wsX9_count := by decide +kernel
set_option maxRecDepth 20000 in
theorem iw9_X9_count : ∀ w ∈ u_ws RX9 TX9 8, w ∈ wsX9_count := by decide +kernel
theorem mf244_X9_count : Cond.fieldLink RX9 244 "GasVoyages$Land" "w" "I" ∈ wsX9_count := by decide +kernel
set_option maxRecDepth 20000 in
theorem iw5_X9_count : ∀ w ∈ u_ws RX5 TX5 3, w ∈ wsX9_count := by decide +kernel
theorem mf247_X9_count : Cond.fieldLink RX9 247 "GasVoyages$Land" "h" "I" ∈ wsX9_count := by decide +kernel
theorem mf33_X9_count : Cond.fieldLink RX9 33 "GasVoyages" "flightCount" "I" ∈ wsX9_count := by decide +kernel
theorem mf64_X9_count : Cond.fieldLink RX9 64 "GasVoyages" "chasers" "LGasVoyages$Chasers;" ∈ wsX9_count := by decide +kernel
theorem mf77_X9_count : Cond.fieldLink RX9 77 "GasVoyages$Chasers" "number" "I" ∈ wsX9_count := by decide +kernel
set_option maxRecDepth 20000 in
theorem iw2_X9_count : ∀ w ∈ u_ws RX2 TX2 6, w ∈ wsX9_count := by decide +kernel
def f_X9_count (σ : St) (p1 : Int32) : Option Int32 := if p1 = 0 then (some (σ.1 1 0)) else (if p1 = 1 then (some (σ.1 1 1)) else (if p1 = 2 then (some (σ.1 0 4)) else (if p1 = 3 then (Option.bind (f_X9_countGoing σ) fun v5 => some v5) else (if p1 = 4 then (some (σ.1 28 3)) else (if p1 = 5 then (Option.bind (f_X5_countClosed σ) fun v8 => some v8) else (if p1 = 6 then (Option.bind (f_X9_countLost σ) fun v10 => some v10) else (some (-2))))))))
set_option maxRecDepth 100000 in
set_option maxHeartbeats 4000000 in
theorem c_X9_count (l : Launch) (G : Gp) (A : Nat → Prop) (σ : St) (p1 : Int32) {r : Int32} (h : f_X9_count σ p1 = some r) : Ki l yX9_count wsX9_count 1 G A [.ref (ad G 0), .int p1] σ r σ := by
  unfold f_X9_count at h
  refine r_start (ws := wsX9_count) (d := 1) (by decide) rfl [.ref (ad G 0), .int p1] (Nat.le_of_ble_eq_true rfl) ?_
  intro p e s m below meth c S hr hlocks hE hw ls hl
  have hl : lv_has ls 2 [(0, .ref (ad G 0)), (1, .int p1)] := hl
  obtain ⟨hx, hb, hml, hown, hts⟩ := id S
  refine lv_iload_n hx hb dX9_count_0 rfl (lv_at hl 1 rfl) ?_
  by_cases c1 : p1 = 0
  · have h := if_t c1 h
    refine lv_tableIn (off := 43) (tgt := 44) hx hb dX9_count_1 (by rw [c1]; decide) (by rw [c1]; decide) (by rw [c1]; rfl) (by decide) ?_
    refine lv_aload_n hx hb dX9_count_44 rfl (lv_at hl 0 rfl) ?_
    refine r_gr S hE hw 0 1 iw9_X9_count rfl rfl (by decide) rfl (hts _ mf12_X9_count) dX9_count_45 ?_
    refine r_gi S hE hw 0 iw5_X9_count rfl rfl (by decide) (hts _ mf244_X9_count) dX9_count_48 ?_
    obtain rfl := Option.some.inj h
    exact r_iret S hr hlocks hw dX9_count_51
  have h := if_f c1 h
  by_cases c2 : p1 = 1
  · have h := if_t c2 h
    refine lv_tableIn (off := 51) (tgt := 52) hx hb dX9_count_1 (by rw [c2]; decide) (by rw [c2]; decide) (by rw [c2]; rfl) (by decide) ?_
    refine lv_aload_n hx hb dX9_count_52 rfl (lv_at hl 0 rfl) ?_
    refine r_gr S hE hw 0 1 iw9_X9_count rfl rfl (by decide) rfl (hts _ mf12_X9_count) dX9_count_53 ?_
    refine r_gi S hE hw 1 iw5_X9_count rfl rfl (by decide) (hts _ mf247_X9_count) dX9_count_56 ?_
    obtain rfl := Option.some.inj h
    exact r_iret S hr hlocks hw dX9_count_59
  have h := if_f c2 h
  by_cases c3 : p1 = 2
  · have h := if_t c3 h
    refine lv_tableIn (off := 59) (tgt := 60) hx hb dX9_count_1 (by rw [c3]; decide) (by rw [c3]; decide) (by rw [c3]; rfl) (by decide) ?_
    refine lv_aload_n hx hb dX9_count_60 rfl (lv_at hl 0 rfl) ?_
    refine r_gi S hE hw 4 iw9_X9_count rfl rfl (by decide) (hts _ mf33_X9_count) dX9_count_61 ?_
    obtain rfl := Option.some.inj h
    exact r_iret S hr hlocks hw dX9_count_64
  have h := if_f c3 h
  by_cases c4 : p1 = 3
  · have h := if_t c4 h
    refine lv_tableIn (off := 64) (tgt := 65) hx hb dX9_count_1 (by rw [c4]; decide) (by rw [c4]; decide) (by rw [c4]; rfl) (by decide) ?_
    refine lv_aload_n hx hb dX9_count_65 rfl (lv_at hl 0 rfl) ?_
    obtain ⟨v5, gv5, h⟩ := oB_out h
    refine r_ci (r_runV (k := 0) (ci := 9) (As := []) (rest := []) S hE hw (c_X9_countGoing  l G A σ  gv5) (cwV 0 hts gX9_count_X9_countGoing rfl rfl rfl (by decide +kernel) ⟨Nat.le_of_ble_eq_true rfl, Nat.le_of_ble_eq_true rfl⟩) rfl rfl (by decide) rfl hl.1 rfl (Nat.le_of_ble_eq_true rfl) ⟨Nat.zero_le _, Nat.zero_le _⟩ dX9_count_66) hw (fun H locs hw => ?_)
    obtain rfl := Option.some.inj h
    exact r_iret S hr hlocks hw dX9_count_69
  have h := if_f c4 h
  by_cases c6 : p1 = 4
  · have h := if_t c6 h
    refine lv_tableIn (off := 69) (tgt := 70) hx hb dX9_count_1 (by rw [c6]; decide) (by rw [c6]; decide) (by rw [c6]; rfl) (by decide) ?_
    refine lv_aload_n hx hb dX9_count_70 rfl (lv_at hl 0 rfl) ?_
    refine r_gr S hE hw 7 28 iw9_X9_count rfl rfl (by decide) rfl (hts _ mf64_X9_count) dX9_count_71 ?_
    refine r_gi S hE hw 3 iw2_X9_count rfl rfl (by decide) (hts _ mf77_X9_count) dX9_count_74 ?_
    obtain rfl := Option.some.inj h
    exact r_iret S hr hlocks hw dX9_count_77
  have h := if_f c6 h
  by_cases c7 : p1 = 5
  · have h := if_t c7 h
    refine lv_tableIn (off := 77) (tgt := 78) hx hb dX9_count_1 (by rw [c7]; decide) (by rw [c7]; decide) (by rw [c7]; rfl) (by decide) ?_
    refine lv_aload_n hx hb dX9_count_78 rfl (lv_at hl 0 rfl) ?_
    refine r_gr S hE hw 0 1 iw9_X9_count rfl rfl (by decide) rfl (hts _ mf12_X9_count) dX9_count_79 ?_
    obtain ⟨v8, gv8, h⟩ := oB_out h
    refine r_ci (r_runV (k := 1) (ci := 5) (As := []) (rest := []) S hE hw (c_X5_countClosed  l G A σ  gv8) (cwV 0 hts gX9_count_X5_countClosed rfl rfl rfl (by decide +kernel) ⟨Nat.le_of_ble_eq_true rfl, Nat.le_of_ble_eq_true rfl⟩) rfl rfl (by decide) rfl hl.1 rfl (Nat.le_of_ble_eq_true rfl) ⟨Nat.zero_le _, Nat.zero_le _⟩ dX9_count_82) hw (fun H locs hw => ?_)
    obtain rfl := Option.some.inj h
    exact r_iret S hr hlocks hw dX9_count_85
  have h := if_f c7 h
  by_cases c9 : p1 = 6
  · have h := if_t c9 h
    refine lv_tableIn (off := 85) (tgt := 86) hx hb dX9_count_1 (by rw [c9]; decide) (by rw [c9]; decide) (by rw [c9]; rfl) (by decide) ?_
    refine lv_aload_n hx hb dX9_count_86 rfl (lv_at hl 0 rfl) ?_
    obtain ⟨v10, gv10, h⟩ := oB_out h
    refine r_ci (r_runV (k := 0) (ci := 9) (As := []) (rest := []) S hE hw (c_X9_countLost  l G A σ  gv10) (cwV 0 hts gX9_count_X9_countLost rfl rfl rfl (by decide +kernel) ⟨Nat.le_of_ble_eq_true rfl, Nat.le_of_ble_eq_true rfl⟩) rfl rfl (by decide) rfl hl.1 rfl (Nat.le_of_ble_eq_true rfl) ⟨Nat.zero_le _, Nat.zero_le _⟩ dX9_count_87) hw (fun H locs hw => ?_)
    obtain rfl := Option.some.inj h
    exact r_iret S hr hlocks hw dX9_count_90
  have h := if_f c9 h
  refine lv_tableOut (tgt := 91) hx hb dX9_count_1 (sw7_out c1 c2 c3 c4 c6 c7 c9) (by decide) ?_
  refine lv_bipush (v := (-2)) hx hb dX9_count_91 (by decide) ?_
  obtain rfl := Option.some.inj h
  exact r_iret S hr hlocks hw dX9_count_93


theorem mc261_X9_digestFlight : Cond.constantLong RX9 261 (31) ∈ wsX9_digestFlight := by decide +kernel
theorem mf25_X9_digestFlight : Cond.fieldLink RX9 25 "GasVoyages" "flights" "[LGasVoyages$Flight;" ∈ wsX9_digestFlight := by decide +kernel
set_option maxRecDepth 20000 in
theorem iw9_X9_digestFlight : ∀ w ∈ u_ws RX9 TX9 8, w ∈ wsX9_digestFlight := by decide +kernel
theorem mf131_X9_digestFlight : Cond.fieldLink RX9 131 "GasVoyages$Flight" "entries" "I" ∈ wsX9_digestFlight := by decide +kernel
set_option maxRecDepth 20000 in
theorem iw3_X9_digestFlight : ∀ w ∈ u_ws RX3 TX3 7, w ∈ wsX9_digestFlight := by decide +kernel
def f_X9_digestFlight_56 (kn39 : St → Int32 → Int64 → Int32 → Option Int64) : Nat → St → Int32 → Int64 → Int32 → Int32 → Option Int64
  | 0, _, _, _, _, _ => none
  | n + 1, σ, x3, x4, x6, x7 => if 2 < x7 then (kn39 σ x3 x4 (x6 + 1)) else (Option.bind (f_X9_entry σ x3 x6 x7) fun v2 => f_X9_digestFlight_56 kn39 n σ x3 ((31 * x4) + v2.toInt64) x6 (x7 + 1))
set_option maxRecDepth 100000 in
set_option maxHeartbeats 4000000 in
theorem w_X9_digestFlight_56 {p : Program} {l : Launch} {e : Env} {s : State} {m : MethodId} {args : Array Value} {below : List Frame} {meth : Method} {c : Code} {G : Gp} {A : Nat → Prop} (S : CallFix p m c cX9_digestFlight 8 s args wsX9_digestFlight RX9) (hr : meth.sig.returnType = (some .long)) (hlocks : meth.locks = false) (hE : Ev G A s) {kn39 : St → Int32 → Int64 → Int32 → Option Int64} (hkn39 : ∀ (σ : St) (x3 : Int32) (x4 : Int64) (x6 : Int32) (r : Int64) (_ : Unit), kn39 σ x3 x4 x6 = some r → ∀ (H : Heap) (locs : List Loc) (ls : Array Slot), Ww G A σ s H locs → lv_has ls 8 [(0, .ref (ad G 0)), (3, .int x3), (4, .long x4), (6, .int x6)] → W p l e (rmd 3) s m args below meth c H locs 0 0 (Ql below args s G A r σ) (F0 m 39 ls [])) (n : Nat) (σ : St) (x3 : Int32) (x4 : Int64) (x6 : Int32) (x7 : Int32) {r : Int64} (h : f_X9_digestFlight_56  kn39 n σ x3 x4 x6 x7 = some r) {H : Heap} {locs : List Loc} {ls : Array Slot} (hw : Ww G A σ s H locs) (hl : lv_has ls 8 [(0, .ref (ad G 0)), (3, .int x3), (4, .long x4), (6, .int x6), (7, .int x7)]) : W p l e (rmd 3) s m args below meth c H locs 0 0 (Ql below args s G A r σ) (F0 m 56 ls []) := by
  obtain ⟨hx, hb, hml, hown, hts⟩ := id S
  induction n generalizing σ x3 x4 x6 x7 r  H locs ls with
  | zero => cases h
  | succ n ih =>
    unfold f_X9_digestFlight_56 at h
    refine lv_iload hx hb dX9_digestFlight_56 (lv_at hl 4 rfl) ?_
    refine lv_iconst (v := 2) hx hb dX9_digestFlight_58 (by decide) ?_
    refine lv_icmp_gt (tgt := 87) hx hb dX9_digestFlight_59 (by decide) (fun c1 => ?_) (fun c1 => ?_)
    · have h := if_t c1 h
      refine lv_iinc (v := x6 + 1) (lv' := [(6, .int (x6 + 1)), (0, .ref (ad G 0)), (3, .int x3), (4, .long x4), (7, .int x7)]) hx hb dX9_digestFlight_87 hl (k := 3) rfl rfl (by decide) rfl (fun ls hl => ?_)
      refine lv_goto (tgt := 39) hx hb dX9_digestFlight_90 (by decide) ?_
      exact hkn39 σ x3 x4 (x6 + 1) _ () h _ _ _ hw (lv_sub hl [1, 2, 3, 0] rfl)
    · have h := if_f c1 h
      refine lv_ldc2 (v := 31) hx hb hown (hts _ mc261_X9_digestFlight) dX9_digestFlight_62 ?_
      refine lv_lload hx hb dX9_digestFlight_65 (lv_at hl 2 rfl) ?_
      refine lv_lmul hx hb dX9_digestFlight_67 ?_
      refine lv_aload_n hx hb dX9_digestFlight_68 rfl (lv_at hl 0 rfl) ?_
      refine lv_iload_n hx hb dX9_digestFlight_69 rfl (lv_at hl 1 rfl) ?_
      refine lv_iload hx hb dX9_digestFlight_70 (lv_at hl 3 rfl) ?_
      refine lv_iload hx hb dX9_digestFlight_72 (lv_at hl 4 rfl) ?_
      obtain ⟨v2, gv2, h⟩ := oB_out h
      refine r_ci (r_runV (k := 0) (ci := 9) (As := [.int x3, .int x6, .int x7]) (rest := [.long (31 * x4)]) S hE hw (c_X9_entry  l G A σ x3 x6 x7 gv2) (cwV 3 hts gX9_digestFlight_X9_entry rfl rfl rfl (by decide +kernel) ⟨Nat.le_of_ble_eq_true rfl, Nat.le_of_ble_eq_true rfl⟩) rfl rfl (by decide) rfl hl.1 rfl (Nat.le_of_ble_eq_true rfl) ⟨Nat.zero_le _, Nat.zero_le _⟩ dX9_digestFlight_74) hw (fun H locs hw => ?_)
      refine lv_i2l (v := v2.toInt64) hx hb dX9_digestFlight_77 rfl ?_
      refine lv_ladd hx hb dX9_digestFlight_78 ?_
      refine lv_lstore (lv' := [(4, .long ((31 * x4) + v2.toInt64)), (0, .ref (ad G 0)), (3, .int x3), (6, .int x6), (7, .int x7)]) hx hb dX9_digestFlight_79 hl (by decide) rfl (fun ls hl => ?_)
      refine lv_iinc (v := x7 + 1) (lv' := [(7, .int (x7 + 1)), (4, .long ((31 * x4) + v2.toInt64)), (0, .ref (ad G 0)), (3, .int x3), (6, .int x6)]) hx hb dX9_digestFlight_81 hl (k := 4) rfl rfl (by decide) rfl (fun ls hl => ?_)
      refine lv_goto (tgt := 56) hx hb dX9_digestFlight_84 (by decide) ?_
      exact ih σ x3 ((31 * x4) + v2.toInt64) x6 (x7 + 1) h hw (lv_sub hl [2, 3, 1, 4, 0] rfl)

def f_X9_digestFlight_39 : Nat → St → Int32 → Int64 → Int32 → Option Int64
  | 0, _, _, _, _ => none
  | n + 1, σ, x3, x4, x6 => Option.bind (inB 8 x3) fun j1 => if (σ.1 (40 + 4 * j1) 3) ≤ x6 then (some x4) else (f_X9_digestFlight_56 (fun σ x3 x4 x6 => f_X9_digestFlight_39 n σ x3 x4 x6) 10000 σ x3 x4 x6 0)
set_option maxRecDepth 100000 in
set_option maxHeartbeats 4000000 in
theorem w_X9_digestFlight_39 {p : Program} {l : Launch} {e : Env} {s : State} {m : MethodId} {args : Array Value} {below : List Frame} {meth : Method} {c : Code} {G : Gp} {A : Nat → Prop} (S : CallFix p m c cX9_digestFlight 8 s args wsX9_digestFlight RX9) (hr : meth.sig.returnType = (some .long)) (hlocks : meth.locks = false) (hE : Ev G A s) (n : Nat) (σ : St) (x3 : Int32) (x4 : Int64) (x6 : Int32) {r : Int64} (h : f_X9_digestFlight_39   n σ x3 x4 x6 = some r) {H : Heap} {locs : List Loc} {ls : Array Slot} (hw : Ww G A σ s H locs) (hl : lv_has ls 8 [(0, .ref (ad G 0)), (3, .int x3), (4, .long x4), (6, .int x6)]) : W p l e (rmd 3) s m args below meth c H locs 0 0 (Ql below args s G A r σ) (F0 m 39 ls []) := by
  obtain ⟨hx, hb, hml, hown, hts⟩ := id S
  induction n generalizing σ x3 x4 x6 r  H locs ls with
  | zero => cases h
  | succ n ih =>
    unfold f_X9_digestFlight_39 at h
    refine lv_iload hx hb dX9_digestFlight_39 (lv_at hl 3 rfl) ?_
    refine lv_aload_n hx hb dX9_digestFlight_41 rfl (lv_at hl 0 rfl) ?_
    refine r_gr S hE hw 2 13 iw9_X9_digestFlight rfl rfl (by decide) rfl (hts _ mf25_X9_digestFlight) dX9_digestFlight_42 ?_
    refine lv_iload_n hx hb dX9_digestFlight_45 rfl (lv_at hl 1 rfl) ?_
    obtain ⟨j1, gj1, h⟩ := oB_out h
    refine r_rf S hE hw ⟨rfl, rfl⟩ gj1 dX9_digestFlight_46 ?_
    have hf2 := kd_fl (inB_in gj1).2.2
    refine r_gi S hE hw 3 iw3_X9_digestFlight hf2 rfl (by decide) (hts _ mf131_X9_digestFlight) dX9_digestFlight_47 ?_
    refine lv_icmp_ge (tgt := 93) hx hb dX9_digestFlight_50 (by decide) (fun c3 => ?_) (fun c3 => ?_)
    · have h := if_t c3 h
      refine lv_lload hx hb dX9_digestFlight_93 (lv_at hl 2 rfl) ?_
      obtain rfl := Option.some.inj h
      exact r_lret S hr hlocks hw dX9_digestFlight_95
    · have h := if_f c3 h
      refine lv_iconst (v := 0) hx hb dX9_digestFlight_53 (by decide) ?_
      refine lv_istore (lv' := [(7, .int 0), (0, .ref (ad G 0)), (3, .int x3), (4, .long x4), (6, .int x6)]) hx hb dX9_digestFlight_54 hl (by decide) rfl (fun ls hl => ?_)
      exact w_X9_digestFlight_56   S hr hlocks hE (fun σ x3 x4 x6  _ _ h _ _ _ hw hl => ih σ x3 x4 x6  h hw hl) 10000 σ x3 x4 x6 0 h hw (lv_sub hl [1, 2, 3, 4, 0] rfl)

def f_X9_digestFlight_6 : Nat → St → Int32 → Int64 → Int32 → Option Int64
  | 0, _, _, _, _ => none
  | n + 1, σ, x3, x4, x6 => if 9 < x6 then (f_X9_digestFlight_39 10000 σ x3 x4 0) else (Option.bind (f_X9_about σ x3 x6) fun v2 => f_X9_digestFlight_6 n σ x3 ((31 * x4) + v2.toInt64) (x6 + 1))
set_option maxRecDepth 100000 in
set_option maxHeartbeats 4000000 in
theorem w_X9_digestFlight_6 {p : Program} {l : Launch} {e : Env} {s : State} {m : MethodId} {args : Array Value} {below : List Frame} {meth : Method} {c : Code} {G : Gp} {A : Nat → Prop} (S : CallFix p m c cX9_digestFlight 8 s args wsX9_digestFlight RX9) (hr : meth.sig.returnType = (some .long)) (hlocks : meth.locks = false) (hE : Ev G A s) (n : Nat) (σ : St) (x3 : Int32) (x4 : Int64) (x6 : Int32) {r : Int64} (h : f_X9_digestFlight_6   n σ x3 x4 x6 = some r) {H : Heap} {locs : List Loc} {ls : Array Slot} (hw : Ww G A σ s H locs) (hl : lv_has ls 8 [(0, .ref (ad G 0)), (3, .int x3), (4, .long x4), (6, .int x6)]) : W p l e (rmd 3) s m args below meth c H locs 0 0 (Ql below args s G A r σ) (F0 m 6 ls []) := by
  obtain ⟨hx, hb, hml, hown, hts⟩ := id S
  induction n generalizing σ x3 x4 x6 r  H locs ls with
  | zero => cases h
  | succ n ih =>
    unfold f_X9_digestFlight_6 at h
    refine lv_iload hx hb dX9_digestFlight_6 (lv_at hl 3 rfl) ?_
    refine lv_bipush (v := 9) hx hb dX9_digestFlight_8 (by decide) ?_
    refine lv_icmp_gt (tgt := 36) hx hb dX9_digestFlight_10 (by decide) (fun c1 => ?_) (fun c1 => ?_)
    · have h := if_t c1 h
      refine lv_iconst (v := 0) hx hb dX9_digestFlight_36 (by decide) ?_
      refine lv_istore (lv' := [(6, .int 0), (0, .ref (ad G 0)), (3, .int x3), (4, .long x4)]) hx hb dX9_digestFlight_37 hl (by decide) rfl (fun ls hl => ?_)
      exact w_X9_digestFlight_39   S hr hlocks hE  10000 σ x3 x4 0 h hw (lv_sub hl [1, 2, 3, 0] rfl)
    · have h := if_f c1 h
      refine lv_ldc2 (v := 31) hx hb hown (hts _ mc261_X9_digestFlight) dX9_digestFlight_13 ?_
      refine lv_lload hx hb dX9_digestFlight_16 (lv_at hl 2 rfl) ?_
      refine lv_lmul hx hb dX9_digestFlight_18 ?_
      refine lv_aload_n hx hb dX9_digestFlight_19 rfl (lv_at hl 0 rfl) ?_
      refine lv_iload_n hx hb dX9_digestFlight_20 rfl (lv_at hl 1 rfl) ?_
      refine lv_iload hx hb dX9_digestFlight_21 (lv_at hl 3 rfl) ?_
      obtain ⟨v2, gv2, h⟩ := oB_out h
      refine r_ci (r_runV (k := 0) (ci := 9) (As := [.int x3, .int x6]) (rest := [.long (31 * x4)]) S hE hw (c_X9_about  l G A σ x3 x6 gv2) (cwV 2 hts gX9_digestFlight_X9_about rfl rfl rfl (by decide +kernel) ⟨Nat.le_of_ble_eq_true rfl, Nat.le_of_ble_eq_true rfl⟩) rfl rfl (by decide) rfl hl.1 rfl (Nat.le_of_ble_eq_true rfl) ⟨Nat.zero_le _, Nat.zero_le _⟩ dX9_digestFlight_23) hw (fun H locs hw => ?_)
      refine lv_i2l (v := v2.toInt64) hx hb dX9_digestFlight_26 rfl ?_
      refine lv_ladd hx hb dX9_digestFlight_27 ?_
      refine lv_lstore (lv' := [(4, .long ((31 * x4) + v2.toInt64)), (0, .ref (ad G 0)), (3, .int x3), (6, .int x6)]) hx hb dX9_digestFlight_28 hl (by decide) rfl (fun ls hl => ?_)
      refine lv_iinc (v := x6 + 1) (lv' := [(6, .int (x6 + 1)), (4, .long ((31 * x4) + v2.toInt64)), (0, .ref (ad G 0)), (3, .int x3)]) hx hb dX9_digestFlight_30 hl (k := 3) rfl rfl (by decide) rfl (fun ls hl => ?_)
      refine lv_goto (tgt := 6) hx hb dX9_digestFlight_33 (by decide) ?_
      exact ih σ x3 ((31 * x4) + v2.toInt64) (x6 + 1) h hw (lv_sub hl [2, 3, 1, 0] rfl)

def f_X9_digestFlight (σ : St) (p1 : Int64) (p3 : Int32) : Option Int64 := f_X9_digestFlight_6 10000 σ p3 p1 0
set_option maxRecDepth 100000 in
set_option maxHeartbeats 4000000 in
theorem c_X9_digestFlight (l : Launch) (G : Gp) (A : Nat → Prop) (σ : St) (p1 : Int64) (p3 : Int32) {r : Int64} (h : f_X9_digestFlight σ p1 p3 = some r) : Kl l yX9_digestFlight wsX9_digestFlight 3 G A [.ref (ad G 0), .long p1, .int p3] σ r σ := by
  unfold f_X9_digestFlight at h
  refine r_start (ws := wsX9_digestFlight) (d := 3) (by decide) rfl [.ref (ad G 0), .long p1, .int p3] (Nat.le_of_ble_eq_true rfl) ?_
  intro p e s m below meth c S hr hlocks hE hw ls hl
  have hl : lv_has ls 8 [(0, .ref (ad G 0)), (1, .long p1), (3, .int p3)] := hl
  obtain ⟨hx, hb, hml, hown, hts⟩ := id S
  refine lv_lload_n hx hb dX9_digestFlight_0 rfl (lv_at hl 1 rfl) ?_
  refine lv_lstore (lv' := [(4, .long p1), (0, .ref (ad G 0)), (1, .long p1), (3, .int p3)]) hx hb dX9_digestFlight_1 hl (by decide) rfl (fun ls hl => ?_)
  refine lv_iconst (v := 0) hx hb dX9_digestFlight_3 (by decide) ?_
  refine lv_istore (lv' := [(6, .int 0), (4, .long p1), (0, .ref (ad G 0)), (1, .long p1), (3, .int p3)]) hx hb dX9_digestFlight_4 hl (by decide) rfl (fun ls hl => ?_)
  exact w_X9_digestFlight_6   S hr hlocks hE  10000 σ p3 p1 0 h hw (lv_sub hl [2, 4, 1, 0] rfl)

