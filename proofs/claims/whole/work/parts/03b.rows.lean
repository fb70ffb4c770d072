theorem mf58_X3_writeDown : Cond.fieldLink RX3 58 "GasVoyages$Flight" "entries" "I" ∈ wsX3_writeDown := by decide +kernel
set_option maxRecDepth 20000 in
theorem iw3_X3_writeDown : ∀ w ∈ u_ws RX3 TX3 7, w ∈ wsX3_writeDown := by decide +kernel
theorem mf18_X3_writeDown : Cond.fieldLink RX3 18 "GasVoyages$Flight" "places" "[I" ∈ wsX3_writeDown := by decide +kernel
theorem mf12_X3_writeDown : Cond.fieldLink RX3 12 "GasVoyages$Flight" "balloon" "LGasVoyages$Balloon;" ∈ wsX3_writeDown := by decide +kernel
theorem mf33_X3_writeDown : Cond.fieldLink RX3 33 "GasVoyages$Balloon" "cell" "I" ∈ wsX3_writeDown := by decide +kernel
set_option maxRecDepth 20000 in
theorem iw1_X3_writeDown : ∀ w ∈ u_ws RX1 TX1 8, w ∈ wsX3_writeDown := by decide +kernel
theorem mf36_X3_writeDown : Cond.fieldLink RX3 36 "GasVoyages$Balloon" "level" "I" ∈ wsX3_writeDown := by decide +kernel
theorem mi9_X3_writeDown : Cond.initialized RX9 ∈ wsX3_writeDown := by decide +kernel
theorem mtX9_placeOf_X3_writeDown : Cond.static yX9_placeOf ∈ wsX3_writeDown := by decide +kernel
theorem mf22_X3_writeDown : Cond.fieldLink RX3 22 "GasVoyages$Flight" "lost" "[Z" ∈ wsX3_writeDown := by decide +kernel
def f_X3_writeDown (σ : St) (k0 : Nat) : Option St := if 60 ≤ (σ.1 k0 3) then (some σ) else (Option.bind (aS σ (k0 + 2) 60 (σ.1 k0 3) (f_X9_placeOf (σ.1 (k0 + 1) 0) (σ.1 (k0 + 1) 1))) fun s2 => Option.bind (aS s2 (k0 + 3) 60 (s2.1 k0 3) (vp_nar .boolean 0)) fun s3 => bT (up s3 k0 3 ((s3.1 k0 3) + 1)) fun s4 => some s4)
set_option maxRecDepth 100000 in
set_option maxHeartbeats 4000000 in
theorem c_X3_writeDown (l : Launch) (G : Gp) (A : Nat → Prop) (σ : St) (k0 : Nat) (hk0 : kd k0 = 3) {σ' : St} (h : f_X3_writeDown σ k0 = some σ') : Kv l yX3_writeDown wsX3_writeDown 1 G A [.ref (ad G k0)] σ σ' := by
  unfold f_X3_writeDown at h
  refine r_start (ws := wsX3_writeDown) (d := 1) (by decide) rfl [.ref (ad G k0)] (Nat.le_of_ble_eq_true rfl) ?_
  intro p e s m below meth c S hr hlocks hE hw ls hl
  have hl : lv_has ls 1 [(0, .ref (ad G k0))] := hl
  obtain ⟨hx, hb, hml, hown, hts⟩ := id S
  refine lv_aload_n hx hb dX3_writeDown_0 rfl (lv_at hl 0 rfl) ?_
  refine r_gi S hE hw 3 iw3_X3_writeDown hk0 rfl (by decide) (hts _ mf58_X3_writeDown) dX3_writeDown_1 ?_
  refine lv_bipush (v := 60) hx hb dX3_writeDown_4 (by decide) ?_
  refine lv_icmp_ge (tgt := 55) hx hb dX3_writeDown_6 (by decide) (fun c1 => ?_) (fun c1 => ?_)
  · have h := if_t c1 h
    obtain rfl := Option.some.inj h
    exact r_vret S hr hlocks hw dX3_writeDown_55
  · have h := if_f c1 h
    refine lv_aload_n hx hb dX3_writeDown_9 rfl (lv_at hl 0 rfl) ?_
    refine r_gr S hE hw 1 (k0 + 2) iw3_X3_writeDown hk0 rfl (by decide) rfl (hts _ mf18_X3_writeDown) dX3_writeDown_10 ?_
    refine lv_aload_n hx hb dX3_writeDown_13 rfl (lv_at hl 0 rfl) ?_
    refine r_gi S hE hw 3 iw3_X3_writeDown hk0 rfl (by decide) (hts _ mf58_X3_writeDown) dX3_writeDown_14 ?_
    refine lv_aload_n hx hb dX3_writeDown_17 rfl (lv_at hl 0 rfl) ?_
    refine r_gr S hE hw 0 (k0 + 1) iw3_X3_writeDown hk0 rfl (by decide) rfl (hts _ mf12_X3_writeDown) dX3_writeDown_18 ?_
    refine r_gi S hE hw 0 iw1_X3_writeDown (kf_b hk0) rfl (by decide) (hts _ mf33_X3_writeDown) dX3_writeDown_21 ?_
    refine lv_aload_n hx hb dX3_writeDown_24 rfl (lv_at hl 0 rfl) ?_
    refine r_gr S hE hw 0 (k0 + 1) iw3_X3_writeDown hk0 rfl (by decide) rfl (hts _ mf12_X3_writeDown) dX3_writeDown_25 ?_
    refine r_gi S hE hw 1 iw1_X3_writeDown (kf_b hk0) rfl (by decide) (hts _ mf36_X3_writeDown) dX3_writeDown_28 ?_
    refine r_ci (r_runN (As := [.int (σ.1 (k0 + 1) 0), .int (σ.1 (k0 + 1) 1)]) (rest := [.int (σ.1 k0 3), .ref (ad G (k0 + 2))]) S hE hw (c_X9_placeOf  l G A σ (σ.1 (k0 + 1) 0) (σ.1 (k0 + 1) 1)) (va_cnB 2 hts gX3_writeDown_X9_placeOf_n67 rfl rfl rfl (hE.2.2.1 (RX3, 67, yX9_placeOf) (by decide +kernel)) (hts _ mi9_X3_writeDown) (by decide +kernel) ⟨Nat.le_of_ble_eq_true rfl, Nat.le_of_ble_eq_true rfl⟩) (hts _ mtX9_placeOf_X3_writeDown) rfl hl.1 rfl (Nat.le_of_ble_eq_true rfl) ⟨Nat.zero_le _, Nat.zero_le _⟩ dX3_writeDown_31) hw (fun H locs hw => ?_)
    obtain ⟨s2, gs2, h⟩ := oB_out h
    refine r_as S hE hw (kf_p hk0) (kf_pl hk0) gs2 dX3_writeDown_34 (fun H locs hw => ?_)
    refine lv_aload_n hx hb dX3_writeDown_35 rfl (lv_at hl 0 rfl) ?_
    refine r_gr S hE hw 2 (k0 + 3) iw3_X3_writeDown hk0 rfl (by decide) rfl (hts _ mf22_X3_writeDown) dX3_writeDown_36 ?_
    refine lv_aload_n hx hb dX3_writeDown_39 rfl (lv_at hl 0 rfl) ?_
    refine r_gi S hE hw 3 iw3_X3_writeDown hk0 rfl (by decide) (hts _ mf58_X3_writeDown) dX3_writeDown_40 ?_
    refine lv_iconst (v := 0) hx hb dX3_writeDown_43 (by decide) ?_
    obtain ⟨s3, gs3, h⟩ := oB_out h
    refine r_zs S hE hw (kf_l hk0) (kf_ll hk0) gs3 dX3_writeDown_44 (fun H locs hw => ?_)
    refine lv_aload_n hx hb dX3_writeDown_45 rfl (lv_at hl 0 rfl) ?_
    refine lv_dup hx hb dX3_writeDown_46 rfl ?_
    refine r_gi S hE hw 3 iw3_X3_writeDown hk0 rfl (by decide) (hts _ mf58_X3_writeDown) dX3_writeDown_47 ?_
    refine lv_iconst (v := 1) hx hb dX3_writeDown_50 (by decide) ?_
    refine lv_iadd hx hb dX3_writeDown_51 ?_
    obtain ⟨s4, gs4, h⟩ := bT_out h
    refine r_pi S hE hw 3 ((s3.1 k0 3) + 1) iw3_X3_writeDown tyX3 tyX3_ok nmX3 hk0 rfl (by decide) (hts _ mf58_X3_writeDown) rfl (ty := .int) (by decide +kernel) rfl rfl dX3_writeDown_52 (fun H locs hw => ?_)
    rw [← gs4] at hw
    obtain rfl := Option.some.inj h
    exact r_vret S hr hlocks hw dX3_writeDown_55


theorem mf26_X3_begin : Cond.fieldLink RX3 26 "GasVoyages$Flight" "startCell" "I" ∈ wsX3_begin := by decide +kernel
set_option maxRecDepth 20000 in
theorem iw3_X3_begin : ∀ w ∈ u_ws RX3 TX3 7, w ∈ wsX3_begin := by decide +kernel
theorem mf30_X3_begin : Cond.fieldLink RX3 30 "GasVoyages$Flight" "startTick" "I" ∈ wsX3_begin := by decide +kernel
theorem mf12_X3_begin : Cond.fieldLink RX3 12 "GasVoyages$Flight" "balloon" "LGasVoyages$Balloon;" ∈ wsX3_begin := by decide +kernel
theorem mf33_X3_begin : Cond.fieldLink RX3 33 "GasVoyages$Balloon" "cell" "I" ∈ wsX3_begin := by decide +kernel
set_option maxRecDepth 20000 in
theorem iw1_X3_begin : ∀ w ∈ u_ws RX1 TX1 8, w ∈ wsX3_begin := by decide +kernel
theorem mf36_X3_begin : Cond.fieldLink RX3 36 "GasVoyages$Balloon" "level" "I" ∈ wsX3_begin := by decide +kernel
theorem mf39_X3_begin : Cond.fieldLink RX3 39 "GasVoyages$Balloon" "tick" "I" ∈ wsX3_begin := by decide +kernel
theorem mf42_X3_begin : Cond.fieldLink RX3 42 "GasVoyages$Balloon" "load" "I" ∈ wsX3_begin := by decide +kernel
theorem mf45_X3_begin : Cond.fieldLink RX3 45 "GasVoyages$Balloon" "gas" "I" ∈ wsX3_begin := by decide +kernel
theorem mf48_X3_begin : Cond.fieldLink RX3 48 "GasVoyages$Balloon" "ballast" "I" ∈ wsX3_begin := by decide +kernel
theorem mf51_X3_begin : Cond.fieldLink RX3 51 "GasVoyages$Balloon" "vented" "I" ∈ wsX3_begin := by decide +kernel
theorem mf54_X3_begin : Cond.fieldLink RX3 54 "GasVoyages$Balloon" "landed" "Z" ∈ wsX3_begin := by decide +kernel
theorem mf58_X3_begin : Cond.fieldLink RX3 58 "GasVoyages$Flight" "entries" "I" ∈ wsX3_begin := by decide +kernel
theorem mf61_X3_begin : Cond.fieldLink RX3 61 "GasVoyages$Flight" "lostCount" "I" ∈ wsX3_begin := by decide +kernel
def f_X3_begin (σ : St) (k0 : Nat) (p1 : Int32) (p2 : Int32) (p3 : Int32) (p4 : Int32) (p5 : Int32) : Option St := bT (up σ k0 5 p1) fun s1 => bT (up s1 k0 6 p2) fun s2 => bT (up s2 (k0 + 1) 0 p1) fun s3 => bT (up s3 (k0 + 1) 1 1) fun s4 => bT (up s4 (k0 + 1) 2 p2) fun s5 => bT (up s5 (k0 + 1) 3 p3) fun s6 => bT (up s6 (k0 + 1) 4 p4) fun s7 => bT (up s7 (k0 + 1) 5 p5) fun s8 => bT (up s8 (k0 + 1) 6 0) fun s9 => bT (up s9 (k0 + 1) 7 0) fun s10 => bT (up s10 k0 3 0) fun s11 => bT (up s11 k0 4 0) fun s12 => Option.bind (f_X3_writeDown s12 k0) fun s13 => some s13
set_option maxRecDepth 100000 in
set_option maxHeartbeats 4000000 in
theorem c_X3_begin (l : Launch) (G : Gp) (A : Nat → Prop) (σ : St) (k0 : Nat) (p1 : Int32) (p2 : Int32) (p3 : Int32) (p4 : Int32) (p5 : Int32) (hk0 : kd k0 = 3) {σ' : St} (h : f_X3_begin σ k0 p1 p2 p3 p4 p5 = some σ') : Kv l yX3_begin wsX3_begin 2 G A [.ref (ad G k0), .int p1, .int p2, .int p3, .int p4, .int p5] σ σ' := by
  unfold f_X3_begin at h
  refine r_start (ws := wsX3_begin) (d := 2) (by decide) rfl [.ref (ad G k0), .int p1, .int p2, .int p3, .int p4, .int p5] (Nat.le_of_ble_eq_true rfl) ?_
  intro p e s m below meth c S hr hlocks hE hw ls hl
  have hl : lv_has ls 6 [(0, .ref (ad G k0)), (1, .int p1), (2, .int p2), (3, .int p3), (4, .int p4), (5, .int p5)] := hl
  obtain ⟨hx, hb, hml, hown, hts⟩ := id S
  refine lv_aload_n hx hb dX3_begin_0 rfl (lv_at hl 0 rfl) ?_
  refine lv_iload_n hx hb dX3_begin_1 rfl (lv_at hl 1 rfl) ?_
  obtain ⟨s1, gs1, h⟩ := bT_out h
  refine r_pi S hE hw 5 p1 iw3_X3_begin tyX3 tyX3_ok nmX3 hk0 rfl (by decide) (hts _ mf26_X3_begin) rfl (ty := .int) (by decide +kernel) rfl rfl dX3_begin_2 (fun H locs hw => ?_)
  rw [← gs1] at hw
  refine lv_aload_n hx hb dX3_begin_5 rfl (lv_at hl 0 rfl) ?_
  refine lv_iload_n hx hb dX3_begin_6 rfl (lv_at hl 2 rfl) ?_
  obtain ⟨s2, gs2, h⟩ := bT_out h
  refine r_pi S hE hw 6 p2 iw3_X3_begin tyX3 tyX3_ok nmX3 hk0 rfl (by decide) (hts _ mf30_X3_begin) rfl (ty := .int) (by decide +kernel) rfl rfl dX3_begin_7 (fun H locs hw => ?_)
  rw [← gs2] at hw
  refine lv_aload_n hx hb dX3_begin_10 rfl (lv_at hl 0 rfl) ?_
  refine r_gr S hE hw 0 (k0 + 1) iw3_X3_begin hk0 rfl (by decide) rfl (hts _ mf12_X3_begin) dX3_begin_11 ?_
  refine lv_iload_n hx hb dX3_begin_14 rfl (lv_at hl 1 rfl) ?_
  obtain ⟨s3, gs3, h⟩ := bT_out h
  refine r_pi S hE hw 0 p1 iw1_X3_begin tyX1 tyX1_ok nmX1 (kf_b hk0) rfl (by decide) (hts _ mf33_X3_begin) rfl (ty := .int) (by decide +kernel) rfl rfl dX3_begin_15 (fun H locs hw => ?_)
  rw [← gs3] at hw
  refine lv_aload_n hx hb dX3_begin_18 rfl (lv_at hl 0 rfl) ?_
  refine r_gr S hE hw 0 (k0 + 1) iw3_X3_begin hk0 rfl (by decide) rfl (hts _ mf12_X3_begin) dX3_begin_19 ?_
  refine lv_iconst (v := 1) hx hb dX3_begin_22 (by decide) ?_
  obtain ⟨s4, gs4, h⟩ := bT_out h
  refine r_pi S hE hw 1 1 iw1_X3_begin tyX1 tyX1_ok nmX1 (kf_b hk0) rfl (by decide) (hts _ mf36_X3_begin) rfl (ty := .int) (by decide +kernel) rfl rfl dX3_begin_23 (fun H locs hw => ?_)
  rw [← gs4] at hw
  refine lv_aload_n hx hb dX3_begin_26 rfl (lv_at hl 0 rfl) ?_
  refine r_gr S hE hw 0 (k0 + 1) iw3_X3_begin hk0 rfl (by decide) rfl (hts _ mf12_X3_begin) dX3_begin_27 ?_
  refine lv_iload_n hx hb dX3_begin_30 rfl (lv_at hl 2 rfl) ?_
  obtain ⟨s5, gs5, h⟩ := bT_out h
  refine r_pi S hE hw 2 p2 iw1_X3_begin tyX1 tyX1_ok nmX1 (kf_b hk0) rfl (by decide) (hts _ mf39_X3_begin) rfl (ty := .int) (by decide +kernel) rfl rfl dX3_begin_31 (fun H locs hw => ?_)
  rw [← gs5] at hw
  refine lv_aload_n hx hb dX3_begin_34 rfl (lv_at hl 0 rfl) ?_
  refine r_gr S hE hw 0 (k0 + 1) iw3_X3_begin hk0 rfl (by decide) rfl (hts _ mf12_X3_begin) dX3_begin_35 ?_
  refine lv_iload_n hx hb dX3_begin_38 rfl (lv_at hl 3 rfl) ?_
  obtain ⟨s6, gs6, h⟩ := bT_out h
  refine r_pi S hE hw 3 p3 iw1_X3_begin tyX1 tyX1_ok nmX1 (kf_b hk0) rfl (by decide) (hts _ mf42_X3_begin) rfl (ty := .int) (by decide +kernel) rfl rfl dX3_begin_39 (fun H locs hw => ?_)
  rw [← gs6] at hw
  refine lv_aload_n hx hb dX3_begin_42 rfl (lv_at hl 0 rfl) ?_
  refine r_gr S hE hw 0 (k0 + 1) iw3_X3_begin hk0 rfl (by decide) rfl (hts _ mf12_X3_begin) dX3_begin_43 ?_
  refine lv_iload hx hb dX3_begin_46 (lv_at hl 4 rfl) ?_
  obtain ⟨s7, gs7, h⟩ := bT_out h
  refine r_pi S hE hw 4 p4 iw1_X3_begin tyX1 tyX1_ok nmX1 (kf_b hk0) rfl (by decide) (hts _ mf45_X3_begin) rfl (ty := .int) (by decide +kernel) rfl rfl dX3_begin_48 (fun H locs hw => ?_)
  rw [← gs7] at hw
  refine lv_aload_n hx hb dX3_begin_51 rfl (lv_at hl 0 rfl) ?_
  refine r_gr S hE hw 0 (k0 + 1) iw3_X3_begin hk0 rfl (by decide) rfl (hts _ mf12_X3_begin) dX3_begin_52 ?_
  refine lv_iload hx hb dX3_begin_55 (lv_at hl 5 rfl) ?_
  obtain ⟨s8, gs8, h⟩ := bT_out h
  refine r_pi S hE hw 5 p5 iw1_X3_begin tyX1 tyX1_ok nmX1 (kf_b hk0) rfl (by decide) (hts _ mf48_X3_begin) rfl (ty := .int) (by decide +kernel) rfl rfl dX3_begin_57 (fun H locs hw => ?_)
  rw [← gs8] at hw
  refine lv_aload_n hx hb dX3_begin_60 rfl (lv_at hl 0 rfl) ?_
  refine r_gr S hE hw 0 (k0 + 1) iw3_X3_begin hk0 rfl (by decide) rfl (hts _ mf12_X3_begin) dX3_begin_61 ?_
  refine lv_iconst (v := 0) hx hb dX3_begin_64 (by decide) ?_
  obtain ⟨s9, gs9, h⟩ := bT_out h
  refine r_pi S hE hw 6 0 iw1_X3_begin tyX1 tyX1_ok nmX1 (kf_b hk0) rfl (by decide) (hts _ mf51_X3_begin) rfl (ty := .int) (by decide +kernel) rfl rfl dX3_begin_65 (fun H locs hw => ?_)
  rw [← gs9] at hw
  refine lv_aload_n hx hb dX3_begin_68 rfl (lv_at hl 0 rfl) ?_
  refine r_gr S hE hw 0 (k0 + 1) iw3_X3_begin hk0 rfl (by decide) rfl (hts _ mf12_X3_begin) dX3_begin_69 ?_
  refine lv_iconst (v := 0) hx hb dX3_begin_72 (by decide) ?_
  obtain ⟨s10, gs10, h⟩ := bT_out h
  refine r_pi S hE hw 7 0 iw1_X3_begin tyX1 tyX1_ok nmX1 (kf_b hk0) rfl (by decide) (hts _ mf54_X3_begin) rfl (ty := .boolean) (by decide +kernel) rfl rfl dX3_begin_73 (fun H locs hw => ?_)
  rw [← gs10] at hw
  refine lv_aload_n hx hb dX3_begin_76 rfl (lv_at hl 0 rfl) ?_
  refine lv_iconst (v := 0) hx hb dX3_begin_77 (by decide) ?_
  obtain ⟨s11, gs11, h⟩ := bT_out h
  refine r_pi S hE hw 3 0 iw3_X3_begin tyX3 tyX3_ok nmX3 hk0 rfl (by decide) (hts _ mf58_X3_begin) rfl (ty := .int) (by decide +kernel) rfl rfl dX3_begin_78 (fun H locs hw => ?_)
  rw [← gs11] at hw
  refine lv_aload_n hx hb dX3_begin_81 rfl (lv_at hl 0 rfl) ?_
  refine lv_iconst (v := 0) hx hb dX3_begin_82 (by decide) ?_
  obtain ⟨s12, gs12, h⟩ := bT_out h
  refine r_pi S hE hw 4 0 iw3_X3_begin tyX3 tyX3_ok nmX3 hk0 rfl (by decide) (hts _ mf61_X3_begin) rfl (ty := .int) (by decide +kernel) rfl rfl dX3_begin_83 (fun H locs hw => ?_)
  rw [← gs12] at hw
  refine lv_aload_n hx hb dX3_begin_86 rfl (lv_at hl 0 rfl) ?_
  obtain ⟨s13, gs13, h⟩ := oB_out h
  refine r_cv (r_runV (k := k0) (ci := 3) (As := []) (rest := []) S hE hw (c_X3_writeDown  l G A s12 k0 hk0 gs13) (cwV 0 hts gX3_begin_X3_writeDown rfl rfl rfl (by decide +kernel) ⟨Nat.le_of_ble_eq_true rfl, Nat.le_of_ble_eq_true rfl⟩) hk0 rfl (by decide) rfl hl.1 rfl (Nat.le_of_ble_eq_true rfl) ⟨Nat.zero_le _, Nat.zero_le _⟩ dX3_begin_87) hw (fun H locs hw => ?_)
  obtain rfl := Option.some.inj h
  exact r_vret S hr hlocks hw dX3_begin_90


theorem mf58_X3_forget : Cond.fieldLink RX3 58 "GasVoyages$Flight" "entries" "I" ∈ wsX3_forget := by decide +kernel
set_option maxRecDepth 20000 in
theorem iw3_X3_forget : ∀ w ∈ u_ws RX3 TX3 7, w ∈ wsX3_forget := by decide +kernel
theorem ml71_X3_forget : Cond.methodLink RX3 71 Lib.Math.min.name ∈ wsX3_forget := by decide +kernel
theorem msmin_X3_forget : Cond.static Lib.Math.min.name ∈ wsX3_forget := by decide +kernel
theorem miM_X3_forget : Cond.initialized "java/lang/Math" ∈ wsX3_forget := by decide +kernel
theorem mkmin_X3_forget : Cond.code Lib.Math.min.name Lib.Math.min.code 2 (some .int) ∈ wsX3_forget := by decide +kernel
theorem mf22_X3_forget : Cond.fieldLink RX3 22 "GasVoyages$Flight" "lost" "[Z" ∈ wsX3_forget := by decide +kernel
theorem mf61_X3_forget : Cond.fieldLink RX3 61 "GasVoyages$Flight" "lostCount" "I" ∈ wsX3_forget := by decide +kernel
def f_X3_forget_51 (k0 : Nat) (σ : St) (x3 : Int32) : Option (Int32 × St) := bT (up σ k0 4 ((σ.1 k0 4) + x3)) fun s1 => some (x3, s1)
set_option maxRecDepth 100000 in
set_option maxHeartbeats 4000000 in
theorem w_X3_forget_51 {p : Program} {l : Launch} {e : Env} {s : State} {m : MethodId} {args : Array Value} {below : List Frame} {meth : Method} {c : Code} {G : Gp} {A : Nat → Prop} (k0 : Nat) (hk0 : kd k0 = 3) (S : CallFix p m c cX3_forget 6 s args wsX3_forget RX3) (hr : meth.sig.returnType = (some .int)) (hlocks : meth.locks = false) (hE : Ev G A s) (σ : St) (x3 : Int32) {r : Int32} {σ' : St} (h : f_X3_forget_51 k0  σ x3 = some (r, σ')) {H : Heap} {locs : List Loc} {ls : Array Slot} (hw : Ww G A σ s H locs) (hl : lv_has ls 6 [(0, .ref (ad G k0)), (3, .int x3)]) : W p l e (rmd 1) s m args below meth c H locs 0 0 (Qi below args s G A r σ') (F0 m 51 ls []) := by
  obtain ⟨hx, hb, hml, hown, hts⟩ := id S
  unfold f_X3_forget_51 at h
  refine lv_aload_n hx hb dX3_forget_51 rfl (lv_at hl 0 rfl) ?_
  refine lv_dup hx hb dX3_forget_52 rfl ?_
  refine r_gi S hE hw 4 iw3_X3_forget hk0 rfl (by decide) (hts _ mf61_X3_forget) dX3_forget_53 ?_
  refine lv_iload_n hx hb dX3_forget_56 rfl (lv_at hl 1 rfl) ?_
  refine lv_iadd hx hb dX3_forget_57 ?_
  obtain ⟨s1, gs1, h⟩ := bT_out h
  refine r_pi S hE hw 4 ((σ.1 k0 4) + x3) iw3_X3_forget tyX3 tyX3_ok nmX3 hk0 rfl (by decide) (hts _ mf61_X3_forget) rfl (ty := .int) (by decide +kernel) rfl rfl dX3_forget_58 (fun H locs hw => ?_)
  rw [← gs1] at hw
  refine lv_iload_n hx hb dX3_forget_61 rfl (lv_at hl 1 rfl) ?_
  obtain ⟨rfl, rfl⟩ := rt2 h
  exact r_iret S hr hlocks hw dX3_forget_62

def f_X3_forget_17 (k0 : Nat) : Nat → St → Int32 → Int32 → Int32 → Option (Int32 × St)
  | 0, _, _, _, _ => none
  | n + 1, σ, x3, x4, x5 => if x4 < x5 then (f_X3_forget_51 k0 σ x3) else (Option.bind (aL σ (k0 + 3) 60 x5) fun v2 => if v2 = 0 then (Option.bind (aS σ (k0 + 3) 60 x5 (vp_nar .boolean 1)) fun s4 => f_X3_forget_17 k0 n s4 (x3 + 1) x4 (x5 + 1)) else (f_X3_forget_17 k0 n σ x3 x4 (x5 + 1)))
set_option maxRecDepth 100000 in
set_option maxHeartbeats 4000000 in
theorem w_X3_forget_17 {p : Program} {l : Launch} {e : Env} {s : State} {m : MethodId} {args : Array Value} {below : List Frame} {meth : Method} {c : Code} {G : Gp} {A : Nat → Prop} (k0 : Nat) (hk0 : kd k0 = 3) (S : CallFix p m c cX3_forget 6 s args wsX3_forget RX3) (hr : meth.sig.returnType = (some .int)) (hlocks : meth.locks = false) (hE : Ev G A s) (n : Nat) (σ : St) (x3 : Int32) (x4 : Int32) (x5 : Int32) {r : Int32} {σ' : St} (h : f_X3_forget_17 k0  n σ x3 x4 x5 = some (r, σ')) {H : Heap} {locs : List Loc} {ls : Array Slot} (hw : Ww G A σ s H locs) (hl : lv_has ls 6 [(0, .ref (ad G k0)), (3, .int x3), (4, .int x4), (5, .int x5)]) : W p l e (rmd 1) s m args below meth c H locs 0 0 (Qi below args s G A r σ') (F0 m 17 ls []) := by
  obtain ⟨hx, hb, hml, hown, hts⟩ := id S
  induction n generalizing σ x3 x4 x5 r σ' H locs ls with
  | zero => cases h
  | succ n ih =>
    unfold f_X3_forget_17 at h
    refine lv_iload hx hb dX3_forget_17 (lv_at hl 3 rfl) ?_
    refine lv_iload hx hb dX3_forget_19 (lv_at hl 2 rfl) ?_
    refine lv_icmp_gt (tgt := 51) hx hb dX3_forget_21 (by decide) (fun c1 => ?_) (fun c1 => ?_)
    · have h := if_t c1 h
      exact w_X3_forget_51 k0 hk0 S hr hlocks hE   σ x3 h hw (lv_sub hl [0, 1] rfl)
    · have h := if_f c1 h
      refine lv_aload_n hx hb dX3_forget_24 rfl (lv_at hl 0 rfl) ?_
      refine r_gr S hE hw 2 (k0 + 3) iw3_X3_forget hk0 rfl (by decide) rfl (hts _ mf22_X3_forget) dX3_forget_25 ?_
      refine lv_iload hx hb dX3_forget_28 (lv_at hl 3 rfl) ?_
      obtain ⟨v2, gv2, h⟩ := oB_out h
      refine r_zl S hE hw (kf_l hk0) (kf_ll hk0) gv2 dX3_forget_30 ?_
      refine lv_if_ne (tgt := 45) hx hb dX3_forget_31 (by decide) (fun c3 => ?_) (fun c3 => ?_)
      · have h := if_f c3 h
        refine lv_iinc (v := x5 + 1) (lv' := [(5, .int (x5 + 1)), (0, .ref (ad G k0)), (3, .int x3), (4, .int x4)]) hx hb dX3_forget_45 hl (k := 3) rfl rfl (by decide) rfl (fun ls hl => ?_)
        refine lv_goto (tgt := 17) hx hb dX3_forget_48 (by decide) ?_
        exact ih σ x3 x4 (x5 + 1) h hw (lv_sub hl [1, 2, 3, 0] rfl)
      · have h := if_t c3 h
        refine lv_aload_n hx hb dX3_forget_34 rfl (lv_at hl 0 rfl) ?_
        refine r_gr S hE hw 2 (k0 + 3) iw3_X3_forget hk0 rfl (by decide) rfl (hts _ mf22_X3_forget) dX3_forget_35 ?_
        refine lv_iload hx hb dX3_forget_38 (lv_at hl 3 rfl) ?_
        refine lv_iconst (v := 1) hx hb dX3_forget_40 (by decide) ?_
        obtain ⟨s4, gs4, h⟩ := oB_out h
        refine r_zs S hE hw (kf_l hk0) (kf_ll hk0) gs4 dX3_forget_41 (fun H locs hw => ?_)
        refine lv_iinc (v := x3 + 1) (lv' := [(3, .int (x3 + 1)), (0, .ref (ad G k0)), (4, .int x4), (5, .int x5)]) hx hb dX3_forget_42 hl (k := 1) rfl rfl (by decide) rfl (fun ls hl => ?_)
        refine lv_iinc (v := x5 + 1) (lv' := [(5, .int (x5 + 1)), (3, .int (x3 + 1)), (0, .ref (ad G k0)), (4, .int x4)]) hx hb dX3_forget_45 hl (k := 3) rfl rfl (by decide) rfl (fun ls hl => ?_)
        refine lv_goto (tgt := 17) hx hb dX3_forget_48 (by decide) ?_
        exact ih s4 (x3 + 1) x4 (x5 + 1) h hw (lv_sub hl [2, 1, 3, 0] rfl)

def f_X3_forget (σ : St) (k0 : Nat) (p1 : Int32) (p2 : Int32) : Option (Int32 × St) := f_X3_forget_17 k0 10000 σ 0 (if ((σ.1 k0 3) - 1) < p2 then ((σ.1 k0 3) - 1) else p2) p1
set_option maxRecDepth 100000 in
set_option maxHeartbeats 4000000 in
theorem c_X3_forget (l : Launch) (G : Gp) (A : Nat → Prop) (σ : St) (k0 : Nat) (p1 : Int32) (p2 : Int32) (hk0 : kd k0 = 3) {r : Int32} {σ' : St} (h : f_X3_forget σ k0 p1 p2 = some (r, σ')) : Ki l yX3_forget wsX3_forget 1 G A [.ref (ad G k0), .int p1, .int p2] σ r σ' := by
  unfold f_X3_forget at h
  refine r_start (ws := wsX3_forget) (d := 1) (by decide) rfl [.ref (ad G k0), .int p1, .int p2] (Nat.le_of_ble_eq_true rfl) ?_
  intro p e s m below meth c S hr hlocks hE hw ls hl
  have hl : lv_has ls 6 [(0, .ref (ad G k0)), (1, .int p1), (2, .int p2)] := hl
  obtain ⟨hx, hb, hml, hown, hts⟩ := id S
  refine lv_iconst (v := 0) hx hb dX3_forget_0 (by decide) ?_
  refine lv_istore_n (lv' := [(3, .int 0), (0, .ref (ad G k0)), (1, .int p1), (2, .int p2)]) hx hb dX3_forget_1 rfl hl (by decide) rfl (fun ls hl => ?_)
  refine lv_iload_n hx hb dX3_forget_2 rfl (lv_at hl 3 rfl) ?_
  refine lv_aload_n hx hb dX3_forget_3 rfl (lv_at hl 1 rfl) ?_
  refine r_gi S hE hw 3 iw3_X3_forget hk0 rfl (by decide) (hts _ mf58_X3_forget) dX3_forget_4 ?_
  refine lv_iconst (v := 1) hx hb dX3_forget_7 (by decide) ?_
  refine lv_isub hx hb dX3_forget_8 ?_
  refine va_mmin hx hb (hml.trans hl.1.symm) hown (hts _ ml71_X3_forget) (hts _ msmin_X3_forget) (hts _ miM_X3_forget) (hts _ mkmin_X3_forget) (Nat.le_of_ble_eq_true rfl) (Nat.le_of_ble_eq_true rfl) (Nat.zero_le _) (Nat.zero_le _) dX3_forget_9 ?_
  refine lv_istore (lv' := [(4, .int (if ((σ.1 k0 3) - 1) < p2 then ((σ.1 k0 3) - 1) else p2)), (3, .int 0), (0, .ref (ad G k0)), (1, .int p1), (2, .int p2)]) hx hb dX3_forget_12 hl (by decide) rfl (fun ls hl => ?_)
  refine lv_iload_n hx hb dX3_forget_14 rfl (lv_at hl 3 rfl) ?_
  refine lv_istore (lv' := [(5, .int p1), (4, .int (if ((σ.1 k0 3) - 1) < p2 then ((σ.1 k0 3) - 1) else p2)), (3, .int 0), (0, .ref (ad G k0)), (1, .int p1), (2, .int p2)]) hx hb dX3_forget_15 hl (by decide) rfl (fun ls hl => ?_)
  exact w_X3_forget_17 k0 hk0 S hr hlocks hE  10000 σ 0 (if ((σ.1 k0 3) - 1) < p2 then ((σ.1 k0 3) - 1) else p2) p1 h hw (lv_sub hl [3, 2, 1, 0] rfl)


def f_X9_squareBetween (p0 : Int32) (p1 : Int32) : Int32 := (((f_X9_xOf p0) - (f_X9_xOf p1)) * ((f_X9_xOf p0) - (f_X9_xOf p1))) + (((f_X9_yOf p0) - (f_X9_yOf p1)) * ((f_X9_yOf p0) - (f_X9_yOf p1)))
set_option maxRecDepth 100000 in
set_option maxHeartbeats 4000000 in
theorem c_X9_squareBetween (l : Launch) (G : Gp) (A : Nat → Prop) (σ : St) (p0 : Int32) (p1 : Int32) : Ki l yX9_squareBetween wsX9_squareBetween 1 G A [.int p0, .int p1] σ (f_X9_squareBetween p0 p1) σ := by
  obtain ⟨r, h⟩ : ∃ r, f_X9_squareBetween p0 p1 = r := ⟨_, rfl⟩
  rw [h]
  unfold f_X9_squareBetween at h
  refine r_start (ws := wsX9_squareBetween) (d := 1) (by decide) rfl [.int p0, .int p1] (Nat.le_of_ble_eq_true rfl) ?_
  intro p e s m below meth c S hr hlocks hE hw ls hl
  have hl : lv_has ls 4 [(0, .int p0), (1, .int p1)] := hl
  obtain ⟨hx, hb, hml, hown, hts⟩ := id S
  refine lv_iload_n hx hb dX9_squareBetween_0 rfl (lv_at hl 0 rfl) ?_
  refine r_ci (r_runS (As := [.int p0]) (rest := []) S hE hw (c_X9_xOf  l G A σ p0) (va_cwS 1 hts gX9_squareBetween_X9_xOf rfl rfl rfl (by decide +kernel) ⟨Nat.le_of_ble_eq_true rfl, Nat.le_of_ble_eq_true rfl⟩) rfl hl.1 rfl (Nat.le_of_ble_eq_true rfl) ⟨Nat.zero_le _, Nat.zero_le _⟩ dX9_squareBetween_1) hw (fun H locs hw => ?_)
  refine lv_iload_n hx hb dX9_squareBetween_4 rfl (lv_at hl 1 rfl) ?_
  refine r_ci (r_runS (As := [.int p1]) (rest := [.int (f_X9_xOf p0)]) S hE hw (c_X9_xOf  l G A σ p1) (va_cwS 1 hts gX9_squareBetween_X9_xOf rfl rfl rfl (by decide +kernel) ⟨Nat.le_of_ble_eq_true rfl, Nat.le_of_ble_eq_true rfl⟩) rfl hl.1 rfl (Nat.le_of_ble_eq_true rfl) ⟨Nat.zero_le _, Nat.zero_le _⟩ dX9_squareBetween_5) hw (fun H locs hw => ?_)
  refine lv_isub hx hb dX9_squareBetween_8 ?_
  refine lv_istore_n (lv' := [(2, .int ((f_X9_xOf p0) - (f_X9_xOf p1))), (0, .int p0), (1, .int p1)]) hx hb dX9_squareBetween_9 rfl hl (by decide) rfl (fun ls hl => ?_)
  refine lv_iload_n hx hb dX9_squareBetween_10 rfl (lv_at hl 1 rfl) ?_
  refine r_ci (r_runS (As := [.int p0]) (rest := []) S hE hw (c_X9_yOf  l G A σ p0) (va_cwS 1 hts gX9_squareBetween_X9_yOf rfl rfl rfl (by decide +kernel) ⟨Nat.le_of_ble_eq_true rfl, Nat.le_of_ble_eq_true rfl⟩) rfl hl.1 rfl (Nat.le_of_ble_eq_true rfl) ⟨Nat.zero_le _, Nat.zero_le _⟩ dX9_squareBetween_11) hw (fun H locs hw => ?_)
  refine lv_iload_n hx hb dX9_squareBetween_14 rfl (lv_at hl 2 rfl) ?_
  refine r_ci (r_runS (As := [.int p1]) (rest := [.int (f_X9_yOf p0)]) S hE hw (c_X9_yOf  l G A σ p1) (va_cwS 1 hts gX9_squareBetween_X9_yOf rfl rfl rfl (by decide +kernel) ⟨Nat.le_of_ble_eq_true rfl, Nat.le_of_ble_eq_true rfl⟩) rfl hl.1 rfl (Nat.le_of_ble_eq_true rfl) ⟨Nat.zero_le _, Nat.zero_le _⟩ dX9_squareBetween_15) hw (fun H locs hw => ?_)
  refine lv_isub hx hb dX9_squareBetween_18 ?_
  refine lv_istore_n (lv' := [(3, .int ((f_X9_yOf p0) - (f_X9_yOf p1))), (2, .int ((f_X9_xOf p0) - (f_X9_xOf p1))), (0, .int p0), (1, .int p1)]) hx hb dX9_squareBetween_19 rfl hl (by decide) rfl (fun ls hl => ?_)
  refine lv_iload_n hx hb dX9_squareBetween_20 rfl (lv_at hl 1 rfl) ?_
  refine lv_iload_n hx hb dX9_squareBetween_21 rfl (lv_at hl 1 rfl) ?_
  refine lv_imul hx hb dX9_squareBetween_22 ?_
  refine lv_iload_n hx hb dX9_squareBetween_23 rfl (lv_at hl 0 rfl) ?_
  refine lv_iload_n hx hb dX9_squareBetween_24 rfl (lv_at hl 0 rfl) ?_
  refine lv_imul hx hb dX9_squareBetween_25 ?_
  refine lv_iadd hx hb dX9_squareBetween_26 ?_
  subst h
  exact r_iret S hr hlocks hw dX9_squareBetween_27


theorem mf26_X3_flown : Cond.fieldLink RX3 26 "GasVoyages$Flight" "startCell" "I" ∈ wsX3_flown := by decide +kernel
set_option maxRecDepth 20000 in
theorem iw3_X3_flown : ∀ w ∈ u_ws RX3 TX3 7, w ∈ wsX3_flown := by decide +kernel
theorem mf12_X3_flown : Cond.fieldLink RX3 12 "GasVoyages$Flight" "balloon" "LGasVoyages$Balloon;" ∈ wsX3_flown := by decide +kernel
theorem mf33_X3_flown : Cond.fieldLink RX3 33 "GasVoyages$Balloon" "cell" "I" ∈ wsX3_flown := by decide +kernel
set_option maxRecDepth 20000 in
theorem iw1_X3_flown : ∀ w ∈ u_ws RX1 TX1 8, w ∈ wsX3_flown := by decide +kernel
theorem mi9_X3_flown : Cond.initialized RX9 ∈ wsX3_flown := by decide +kernel
theorem mtX9_squareBetween_X3_flown : Cond.static yX9_squareBetween ∈ wsX3_flown := by decide +kernel
def f_X3_flown_25 (k0 : Nat) : Nat → St → Int32 → Int32 → Int32 → Option Int32
  | 0, _, _, _, _ => none
  | n + 1, σ, x1, x2, x3 => if x3 ≤ 0 then (some x2) else (if x1 < ((x2 + x3) * (x2 + x3)) then (f_X3_flown_25 k0 n σ x1 x2 (x3 / 2)) else (f_X3_flown_25 k0 n σ x1 (x2 + x3) (x3 / 2)))
set_option maxRecDepth 100000 in
set_option maxHeartbeats 4000000 in
theorem w_X3_flown_25 {p : Program} {l : Launch} {e : Env} {s : State} {m : MethodId} {args : Array Value} {below : List Frame} {meth : Method} {c : Code} {G : Gp} {A : Nat → Prop} (k0 : Nat) (hk0 : kd k0 = 3) (S : CallFix p m c cX3_flown 5 s args wsX3_flown RX3) (hr : meth.sig.returnType = (some .int)) (hlocks : meth.locks = false) (hE : Ev G A s) (n : Nat) (σ : St) (x1 : Int32) (x2 : Int32) (x3 : Int32) {r : Int32} (h : f_X3_flown_25 k0  n σ x1 x2 x3 = some r) {H : Heap} {locs : List Loc} {ls : Array Slot} (hw : Ww G A σ s H locs) (hl : lv_has ls 5 [(1, .int x1), (2, .int x2), (3, .int x3)]) : W p l e (rmd 2) s m args below meth c H locs 0 0 (Qi below args s G A r σ) (F0 m 25 ls []) := by
  obtain ⟨hx, hb, hml, hown, hts⟩ := id S
  induction n generalizing σ x1 x2 x3 r  H locs ls with
  | zero => cases h
  | succ n ih =>
    unfold f_X3_flown_25 at h
    refine lv_iload_n hx hb dX3_flown_25 rfl (lv_at hl 2 rfl) ?_
    refine lv_if_le (tgt := 53) hx hb dX3_flown_26 (by decide) (fun c1 => ?_) (fun c1 => ?_)
    · have h := if_t c1 h
      refine lv_iload_n hx hb dX3_flown_53 rfl (lv_at hl 1 rfl) ?_
      obtain rfl := Option.some.inj h
      exact r_iret S hr hlocks hw dX3_flown_54
    · have h := if_f c1 h
      refine lv_iload_n hx hb dX3_flown_29 rfl (lv_at hl 1 rfl) ?_
      refine lv_iload_n hx hb dX3_flown_30 rfl (lv_at hl 2 rfl) ?_
      refine lv_iadd hx hb dX3_flown_31 ?_
      refine lv_istore (lv' := [(4, .int (x2 + x3)), (1, .int x1), (2, .int x2), (3, .int x3)]) hx hb dX3_flown_32 hl (by decide) rfl (fun ls hl => ?_)
      refine lv_iload hx hb dX3_flown_34 (lv_at hl 0 rfl) ?_
      refine lv_iload hx hb dX3_flown_36 (lv_at hl 0 rfl) ?_
      refine lv_imul hx hb dX3_flown_38 ?_
      refine lv_iload_n hx hb dX3_flown_39 rfl (lv_at hl 1 rfl) ?_
      refine lv_icmp_gt (tgt := 46) hx hb dX3_flown_40 (by decide) (fun c2 => ?_) (fun c2 => ?_)
      · have h := if_t c2 h
        refine lv_iload_n hx hb dX3_flown_46 rfl (lv_at hl 3 rfl) ?_
        refine lv_iconst (v := 2) hx hb dX3_flown_47 (by decide) ?_
        refine lv_idiv hx hb dX3_flown_48 (by decide) ?_
        refine lv_istore_n (lv' := [(3, .int (x3 / 2)), (4, .int (x2 + x3)), (1, .int x1), (2, .int x2)]) hx hb dX3_flown_49 rfl hl (by decide) rfl (fun ls hl => ?_)
        refine lv_goto (tgt := 25) hx hb dX3_flown_50 (by decide) ?_
        exact ih σ x1 x2 (x3 / 2) h hw (lv_sub hl [2, 3, 0] rfl)
      · have h := if_f c2 h
        refine lv_iload hx hb dX3_flown_43 (lv_at hl 0 rfl) ?_
        refine lv_istore_n (lv' := [(2, .int (x2 + x3)), (4, .int (x2 + x3)), (1, .int x1), (3, .int x3)]) hx hb dX3_flown_45 rfl hl (by decide) rfl (fun ls hl => ?_)
        refine lv_iload_n hx hb dX3_flown_46 rfl (lv_at hl 3 rfl) ?_
        refine lv_iconst (v := 2) hx hb dX3_flown_47 (by decide) ?_
        refine lv_idiv hx hb dX3_flown_48 (by decide) ?_
        refine lv_istore_n (lv' := [(3, .int (x3 / 2)), (2, .int (x2 + x3)), (4, .int (x2 + x3)), (1, .int x1)]) hx hb dX3_flown_49 rfl hl (by decide) rfl (fun ls hl => ?_)
        refine lv_goto (tgt := 25) hx hb dX3_flown_50 (by decide) ?_
        exact ih σ x1 (x2 + x3) (x3 / 2) h hw (lv_sub hl [3, 1, 0] rfl)

def f_X3_flown (σ : St) (k0 : Nat) : Option Int32 := f_X3_flown_25 k0 10000 σ (10000 * (f_X9_squareBetween (σ.1 k0 5) (σ.1 (k0 + 1) 0))) 0 2048
set_option maxRecDepth 100000 in
set_option maxHeartbeats 4000000 in
theorem c_X3_flown (l : Launch) (G : Gp) (A : Nat → Prop) (σ : St) (k0 : Nat) (hk0 : kd k0 = 3) {r : Int32} (h : f_X3_flown σ k0 = some r) : Ki l yX3_flown wsX3_flown 2 G A [.ref (ad G k0)] σ r σ := by
  unfold f_X3_flown at h
  refine r_start (ws := wsX3_flown) (d := 2) (by decide) rfl [.ref (ad G k0)] (Nat.le_of_ble_eq_true rfl) ?_
  intro p e s m below meth c S hr hlocks hE hw ls hl
  have hl : lv_has ls 5 [(0, .ref (ad G k0))] := hl
  obtain ⟨hx, hb, hml, hown, hts⟩ := id S
  refine lv_sipush (v := 10000) hx hb dX3_flown_0 (by decide) ?_
  refine lv_aload_n hx hb dX3_flown_3 rfl (lv_at hl 0 rfl) ?_
  refine r_gi S hE hw 5 iw3_X3_flown hk0 rfl (by decide) (hts _ mf26_X3_flown) dX3_flown_4 ?_
  refine lv_aload_n hx hb dX3_flown_7 rfl (lv_at hl 0 rfl) ?_
  refine r_gr S hE hw 0 (k0 + 1) iw3_X3_flown hk0 rfl (by decide) rfl (hts _ mf12_X3_flown) dX3_flown_8 ?_
  refine r_gi S hE hw 0 iw1_X3_flown (kf_b hk0) rfl (by decide) (hts _ mf33_X3_flown) dX3_flown_11 ?_
  refine r_ci (r_runN (As := [.int (σ.1 k0 5), .int (σ.1 (k0 + 1) 0)]) (rest := [.int 10000]) S hE hw (c_X9_squareBetween  l G A σ (σ.1 k0 5) (σ.1 (k0 + 1) 0)) (va_cnB 2 hts gX3_flown_X9_squareBetween_n76 rfl rfl rfl (hE.2.2.1 (RX3, 76, yX9_squareBetween) (by decide +kernel)) (hts _ mi9_X3_flown) (by decide +kernel) ⟨Nat.le_of_ble_eq_true rfl, Nat.le_of_ble_eq_true rfl⟩) (hts _ mtX9_squareBetween_X3_flown) rfl hl.1 rfl (Nat.le_of_ble_eq_true rfl) ⟨Nat.zero_le _, Nat.zero_le _⟩ dX3_flown_14) hw (fun H locs hw => ?_)
  refine lv_imul hx hb dX3_flown_17 ?_
  refine lv_istore_n (lv' := [(1, .int (10000 * (f_X9_squareBetween (σ.1 k0 5) (σ.1 (k0 + 1) 0)))), (0, .ref (ad G k0))]) hx hb dX3_flown_18 rfl hl (by decide) rfl (fun ls hl => ?_)
  refine lv_iconst (v := 0) hx hb dX3_flown_19 (by decide) ?_
  refine lv_istore_n (lv' := [(2, .int 0), (1, .int (10000 * (f_X9_squareBetween (σ.1 k0 5) (σ.1 (k0 + 1) 0)))), (0, .ref (ad G k0))]) hx hb dX3_flown_20 rfl hl (by decide) rfl (fun ls hl => ?_)
  refine lv_sipush (v := 2048) hx hb dX3_flown_21 (by decide) ?_
  refine lv_istore_n (lv' := [(3, .int 2048), (2, .int 0), (1, .int (10000 * (f_X9_squareBetween (σ.1 k0 5) (σ.1 (k0 + 1) 0)))), (0, .ref (ad G k0))]) hx hb dX3_flown_24 rfl hl (by decide) rfl (fun ls hl => ?_)
  exact w_X3_flown_25 k0 hk0 S hr hlocks hE  10000 σ (10000 * (f_X9_squareBetween (σ.1 k0 5) (σ.1 (k0 + 1) 0))) 0 2048 h hw (lv_sub hl [2, 1, 0] rfl)


theorem mf21_X4_clear : Cond.fieldLink RX4 21 "GasVoyages$Front" "size" "I" ∈ wsX4_clear := by decide +kernel
set_option maxRecDepth 20000 in
theorem iw4_X4_clear : ∀ w ∈ u_ws RX4 TX4 4, w ∈ wsX4_clear := by decide +kernel
theorem mf15_X4_clear : Cond.fieldLink RX4 15 "GasVoyages$Front" "clean" "[I" ∈ wsX4_clear := by decide +kernel
theorem mf9_X4_clear : Cond.fieldLink RX4 9 "GasVoyages$Front" "places" "[I" ∈ wsX4_clear := by decide +kernel
theorem mf18_X4_clear : Cond.fieldLink RX4 18 "GasVoyages$Front" "broken" "[I" ∈ wsX4_clear := by decide +kernel
def f_X4_clear_2 (k0 : Nat) : Nat → St → Int32 → Option St
  | 0, _, _ => none
  | n + 1, σ, x1 => if (σ.1 k0 3) ≤ x1 then (bT (up σ k0 3 0) fun s2 => some s2) else (Option.bind (aL σ (k0 + 1) 4608 x1) fun v3 => Option.bind (aS σ (k0 + 2) 4608 v3 0) fun s4 => Option.bind (aL s4 (k0 + 1) 4608 x1) fun v5 => Option.bind (aS s4 (k0 + 3) 4608 v5 0) fun s6 => f_X4_clear_2 k0 n s6 (x1 + 1))
set_option maxRecDepth 100000 in
set_option maxHeartbeats 4000000 in
theorem w_X4_clear_2 {p : Program} {l : Launch} {e : Env} {s : State} {m : MethodId} {args : Array Value} {below : List Frame} {meth : Method} {c : Code} {G : Gp} {A : Nat → Prop} (k0 : Nat) (hk0 : kd k0 = 4) (S : CallFix p m c cX4_clear 2 s args wsX4_clear RX4) (hr : meth.sig.returnType = none) (hlocks : meth.locks = false) (hE : Ev G A s) (n : Nat) (σ : St) (x1 : Int32) {σ' : St} (h : f_X4_clear_2 k0  n σ x1 = some σ') {H : Heap} {locs : List Loc} {ls : Array Slot} (hw : Ww G A σ s H locs) (hl : lv_has ls 2 [(0, .ref (ad G k0)), (1, .int x1)]) : W p l e (rmd 0) s m args below meth c H locs 0 0 (Qv below args s G A σ') (F0 m 2 ls []) := by
  obtain ⟨hx, hb, hml, hown, hts⟩ := id S
  induction n generalizing σ x1  σ' H locs ls with
  | zero => cases h
  | succ n ih =>
    unfold f_X4_clear_2 at h
    refine lv_iload_n hx hb dX4_clear_2 rfl (lv_at hl 1 rfl) ?_
    refine lv_aload_n hx hb dX4_clear_3 rfl (lv_at hl 0 rfl) ?_
    refine r_gi S hE hw 3 iw4_X4_clear hk0 rfl (by decide) (hts _ mf21_X4_clear) dX4_clear_4 ?_
    refine lv_icmp_ge (tgt := 40) hx hb dX4_clear_7 (by decide) (fun c1 => ?_) (fun c1 => ?_)
    · have h := if_t c1 h
      refine lv_aload_n hx hb dX4_clear_40 rfl (lv_at hl 0 rfl) ?_
      refine lv_iconst (v := 0) hx hb dX4_clear_41 (by decide) ?_
      obtain ⟨s2, gs2, h⟩ := bT_out h
      refine r_pi S hE hw 3 0 iw4_X4_clear tyX4 tyX4_ok nmX4 hk0 rfl (by decide) (hts _ mf21_X4_clear) rfl (ty := .int) (by decide +kernel) rfl rfl dX4_clear_42 (fun H locs hw => ?_)
      rw [← gs2] at hw
      obtain rfl := Option.some.inj h
      exact r_vret S hr hlocks hw dX4_clear_45
    · have h := if_f c1 h
      refine lv_aload_n hx hb dX4_clear_10 rfl (lv_at hl 0 rfl) ?_
      refine r_gr S hE hw 1 (k0 + 2) iw4_X4_clear hk0 rfl (by decide) rfl (hts _ mf15_X4_clear) dX4_clear_11 ?_
      refine lv_aload_n hx hb dX4_clear_14 rfl (lv_at hl 0 rfl) ?_
      refine r_gr S hE hw 0 (k0 + 1) iw4_X4_clear hk0 rfl (by decide) rfl (hts _ mf9_X4_clear) dX4_clear_15 ?_
      refine lv_iload_n hx hb dX4_clear_18 rfl (lv_at hl 1 rfl) ?_
      obtain ⟨v3, gv3, h⟩ := oB_out h
      refine r_al S hE hw (kr_p hk0) (kr_pl hk0) gv3 dX4_clear_19 ?_
      refine lv_iconst (v := 0) hx hb dX4_clear_20 (by decide) ?_
      obtain ⟨s4, gs4, h⟩ := oB_out h
      refine r_as S hE hw (kr_c hk0) (kr_cl hk0) gs4 dX4_clear_21 (fun H locs hw => ?_)
      refine lv_aload_n hx hb dX4_clear_22 rfl (lv_at hl 0 rfl) ?_
      refine r_gr S hE hw 2 (k0 + 3) iw4_X4_clear hk0 rfl (by decide) rfl (hts _ mf18_X4_clear) dX4_clear_23 ?_
      refine lv_aload_n hx hb dX4_clear_26 rfl (lv_at hl 0 rfl) ?_
      refine r_gr S hE hw 0 (k0 + 1) iw4_X4_clear hk0 rfl (by decide) rfl (hts _ mf9_X4_clear) dX4_clear_27 ?_
      refine lv_iload_n hx hb dX4_clear_30 rfl (lv_at hl 1 rfl) ?_
      obtain ⟨v5, gv5, h⟩ := oB_out h
      refine r_al S hE hw (kr_p hk0) (kr_pl hk0) gv5 dX4_clear_31 ?_
      refine lv_iconst (v := 0) hx hb dX4_clear_32 (by decide) ?_
      obtain ⟨s6, gs6, h⟩ := oB_out h
      refine r_as S hE hw (kr_b hk0) (kr_bl hk0) gs6 dX4_clear_33 (fun H locs hw => ?_)
      refine lv_iinc (v := x1 + 1) (lv' := [(1, .int (x1 + 1)), (0, .ref (ad G k0))]) hx hb dX4_clear_34 hl (k := 1) rfl rfl (by decide) rfl (fun ls hl => ?_)
      refine lv_goto (tgt := 2) hx hb dX4_clear_37 (by decide) ?_
      exact ih s6 (x1 + 1) h hw (lv_sub hl [1, 0] rfl)

def f_X4_clear (σ : St) (k0 : Nat) : Option St := f_X4_clear_2 k0 10000 σ 0
set_option maxRecDepth 100000 in
set_option maxHeartbeats 4000000 in
theorem c_X4_clear (l : Launch) (G : Gp) (A : Nat → Prop) (σ : St) (k0 : Nat) (hk0 : kd k0 = 4) {σ' : St} (h : f_X4_clear σ k0 = some σ') : Kv l yX4_clear wsX4_clear 0 G A [.ref (ad G k0)] σ σ' := by
  unfold f_X4_clear at h
  refine r_start (ws := wsX4_clear) (d := 0) (by decide) rfl [.ref (ad G k0)] (Nat.le_of_ble_eq_true rfl) ?_
  intro p e s m below meth c S hr hlocks hE hw ls hl
  have hl : lv_has ls 2 [(0, .ref (ad G k0))] := hl
  obtain ⟨hx, hb, hml, hown, hts⟩ := id S
  refine lv_iconst (v := 0) hx hb dX4_clear_0 (by decide) ?_
  refine lv_istore_n (lv' := [(1, .int 0), (0, .ref (ad G k0))]) hx hb dX4_clear_1 rfl hl (by decide) rfl (fun ls hl => ?_)
  exact w_X4_clear_2 k0 hk0 S hr hlocks hE  10000 σ 0 h hw (lv_sub hl [1, 0] rfl)


theorem mf15_X4_add : Cond.fieldLink RX4 15 "GasVoyages$Front" "clean" "[I" ∈ wsX4_add := by decide +kernel
set_option maxRecDepth 20000 in
theorem iw4_X4_add : ∀ w ∈ u_ws RX4 TX4 4, w ∈ wsX4_add := by decide +kernel
theorem mf18_X4_add : Cond.fieldLink RX4 18 "GasVoyages$Front" "broken" "[I" ∈ wsX4_add := by decide +kernel
theorem mf21_X4_add : Cond.fieldLink RX4 21 "GasVoyages$Front" "size" "I" ∈ wsX4_add := by decide +kernel
theorem mf9_X4_add : Cond.fieldLink RX4 9 "GasVoyages$Front" "places" "[I" ∈ wsX4_add := by decide +kernel
theorem mc25_X4_add : Cond.constant RX4 25 (1000000) ∈ wsX4_add := by decide +kernel
theorem ml26_X4_add : Cond.methodLink RX4 26 Lib.Math.min.name ∈ wsX4_add := by decide +kernel
theorem msmin_X4_add : Cond.static Lib.Math.min.name ∈ wsX4_add := by decide +kernel
theorem miM_X4_add : Cond.initialized "java/lang/Math" ∈ wsX4_add := by decide +kernel
theorem mkmin_X4_add : Cond.code Lib.Math.min.name Lib.Math.min.code 2 (some .int) ∈ wsX4_add := by decide +kernel
def f_X4_add_48 (k0 : Nat) (σ : St) (x1 : Int32) (x2 : Int32) (x3 : Int32) : Option St := Option.bind (aL σ (k0 + 2) 4608 x1) fun v1 => Option.bind (aS σ (k0 + 2) 4608 x1 (if (v1 + x2) < 1000000 then (v1 + x2) else 1000000)) fun s2 => Option.bind (aL s2 (k0 + 3) 4608 x1) fun v3 => Option.bind (aS s2 (k0 + 3) 4608 x1 (if (v3 + x3) < 1000000 then (v3 + x3) else 1000000)) fun s4 => some s4
set_option maxRecDepth 100000 in
set_option maxHeartbeats 4000000 in
theorem w_X4_add_48 {p : Program} {l : Launch} {e : Env} {s : State} {m : MethodId} {args : Array Value} {below : List Frame} {meth : Method} {c : Code} {G : Gp} {A : Nat → Prop} (k0 : Nat) (hk0 : kd k0 = 4) (S : CallFix p m c cX4_add 4 s args wsX4_add RX4) (hr : meth.sig.returnType = none) (hlocks : meth.locks = false) (hE : Ev G A s) (σ : St) (x1 : Int32) (x2 : Int32) (x3 : Int32) {σ' : St} (h : f_X4_add_48 k0  σ x1 x2 x3 = some σ') {H : Heap} {locs : List Loc} {ls : Array Slot} (hw : Ww G A σ s H locs) (hl : lv_has ls 4 [(0, .ref (ad G k0)), (1, .int x1), (2, .int x2), (3, .int x3)]) : W p l e (rmd 1) s m args below meth c H locs 0 0 (Qv below args s G A σ') (F0 m 48 ls []) := by
  obtain ⟨hx, hb, hml, hown, hts⟩ := id S
  unfold f_X4_add_48 at h
  refine lv_aload_n hx hb dX4_add_48 rfl (lv_at hl 0 rfl) ?_
  refine r_gr S hE hw 1 (k0 + 2) iw4_X4_add hk0 rfl (by decide) rfl (hts _ mf15_X4_add) dX4_add_49 ?_
  refine lv_iload_n hx hb dX4_add_52 rfl (lv_at hl 1 rfl) ?_
  refine lv_ldc (v := 1000000) hx hb hown (hts _ mc25_X4_add) dX4_add_53 ?_
  refine lv_aload_n hx hb dX4_add_55 rfl (lv_at hl 0 rfl) ?_
  refine r_gr S hE hw 1 (k0 + 2) iw4_X4_add hk0 rfl (by decide) rfl (hts _ mf15_X4_add) dX4_add_56 ?_
  refine lv_iload_n hx hb dX4_add_59 rfl (lv_at hl 1 rfl) ?_
  obtain ⟨v1, gv1, h⟩ := oB_out h
  refine r_al S hE hw (kr_c hk0) (kr_cl hk0) gv1 dX4_add_60 ?_
  refine lv_iload_n hx hb dX4_add_61 rfl (lv_at hl 2 rfl) ?_
  refine lv_iadd hx hb dX4_add_62 ?_
  refine va_mmin hx hb (hml.trans hl.1.symm) hown (hts _ ml26_X4_add) (hts _ msmin_X4_add) (hts _ miM_X4_add) (hts _ mkmin_X4_add) (Nat.le_of_ble_eq_true rfl) (Nat.le_of_ble_eq_true rfl) (Nat.zero_le _) (Nat.zero_le _) dX4_add_63 ?_
  obtain ⟨s2, gs2, h⟩ := oB_out h
  refine r_as S hE hw (kr_c hk0) (kr_cl hk0) gs2 dX4_add_66 (fun H locs hw => ?_)
  refine lv_aload_n hx hb dX4_add_67 rfl (lv_at hl 0 rfl) ?_
  refine r_gr S hE hw 2 (k0 + 3) iw4_X4_add hk0 rfl (by decide) rfl (hts _ mf18_X4_add) dX4_add_68 ?_
  refine lv_iload_n hx hb dX4_add_71 rfl (lv_at hl 1 rfl) ?_
  refine lv_ldc (v := 1000000) hx hb hown (hts _ mc25_X4_add) dX4_add_72 ?_
  refine lv_aload_n hx hb dX4_add_74 rfl (lv_at hl 0 rfl) ?_
  refine r_gr S hE hw 2 (k0 + 3) iw4_X4_add hk0 rfl (by decide) rfl (hts _ mf18_X4_add) dX4_add_75 ?_
  refine lv_iload_n hx hb dX4_add_78 rfl (lv_at hl 1 rfl) ?_
  obtain ⟨v3, gv3, h⟩ := oB_out h
  refine r_al S hE hw (kr_b hk0) (kr_bl hk0) gv3 dX4_add_79 ?_
  refine lv_iload_n hx hb dX4_add_80 rfl (lv_at hl 3 rfl) ?_
  refine lv_iadd hx hb dX4_add_81 ?_
  refine va_mmin hx hb (hml.trans hl.1.symm) hown (hts _ ml26_X4_add) (hts _ msmin_X4_add) (hts _ miM_X4_add) (hts _ mkmin_X4_add) (Nat.le_of_ble_eq_true rfl) (Nat.le_of_ble_eq_true rfl) (Nat.zero_le _) (Nat.zero_le _) dX4_add_82 ?_
  obtain ⟨s4, gs4, h⟩ := oB_out h
  refine r_as S hE hw (kr_b hk0) (kr_bl hk0) gs4 dX4_add_85 (fun H locs hw => ?_)
  obtain rfl := Option.some.inj h
  exact r_vret S hr hlocks hw dX4_add_86

def f_X4_add (σ : St) (k0 : Nat) (p1 : Int32) (p2 : Int32) (p3 : Int32) : Option St := Option.bind (aL σ (k0 + 2) 4608 p1) fun v1 => if v1 = 0 then (Option.bind (aL σ (k0 + 3) 4608 p1) fun v3 => if v3 = 0 then (if 4608 ≤ (σ.1 k0 3) then (f_X4_add_48 k0 σ p1 p2 p3) else (Option.bind (aS σ (k0 + 1) 4608 (σ.1 k0 3) p1) fun s6 => bT (up s6 k0 3 ((s6.1 k0 3) + 1)) fun s7 => f_X4_add_48 k0 s7 p1 p2 p3)) else (f_X4_add_48 k0 σ p1 p2 p3)) else (f_X4_add_48 k0 σ p1 p2 p3)
set_option maxRecDepth 100000 in
set_option maxHeartbeats 4000000 in
theorem c_X4_add (l : Launch) (G : Gp) (A : Nat → Prop) (σ : St) (k0 : Nat) (p1 : Int32) (p2 : Int32) (p3 : Int32) (hk0 : kd k0 = 4) {σ' : St} (h : f_X4_add σ k0 p1 p2 p3 = some σ') : Kv l yX4_add wsX4_add 1 G A [.ref (ad G k0), .int p1, .int p2, .int p3] σ σ' := by
  unfold f_X4_add at h
  refine r_start (ws := wsX4_add) (d := 1) (by decide) rfl [.ref (ad G k0), .int p1, .int p2, .int p3] (Nat.le_of_ble_eq_true rfl) ?_
  intro p e s m below meth c S hr hlocks hE hw ls hl
  have hl : lv_has ls 4 [(0, .ref (ad G k0)), (1, .int p1), (2, .int p2), (3, .int p3)] := hl
  obtain ⟨hx, hb, hml, hown, hts⟩ := id S
  refine lv_aload_n hx hb dX4_add_0 rfl (lv_at hl 0 rfl) ?_
  refine r_gr S hE hw 1 (k0 + 2) iw4_X4_add hk0 rfl (by decide) rfl (hts _ mf15_X4_add) dX4_add_1 ?_
  refine lv_iload_n hx hb dX4_add_4 rfl (lv_at hl 1 rfl) ?_
  obtain ⟨v1, gv1, h⟩ := oB_out h
  refine r_al S hE hw (kr_c hk0) (kr_cl hk0) gv1 dX4_add_5 ?_
  refine lv_if_ne (tgt := 48) hx hb dX4_add_6 (by decide) (fun c2 => ?_) (fun c2 => ?_)
  · have h := if_f c2 h
    exact w_X4_add_48 k0 hk0 S hr hlocks hE   σ p1 p2 p3 h hw (lv_sub hl [0, 1, 2, 3] rfl)
  · have h := if_t c2 h
    refine lv_aload_n hx hb dX4_add_9 rfl (lv_at hl 0 rfl) ?_
    refine r_gr S hE hw 2 (k0 + 3) iw4_X4_add hk0 rfl (by decide) rfl (hts _ mf18_X4_add) dX4_add_10 ?_
    refine lv_iload_n hx hb dX4_add_13 rfl (lv_at hl 1 rfl) ?_
    obtain ⟨v3, gv3, h⟩ := oB_out h
    refine r_al S hE hw (kr_b hk0) (kr_bl hk0) gv3 dX4_add_14 ?_
    refine lv_if_ne (tgt := 48) hx hb dX4_add_15 (by decide) (fun c4 => ?_) (fun c4 => ?_)
    · have h := if_f c4 h
      exact w_X4_add_48 k0 hk0 S hr hlocks hE   σ p1 p2 p3 h hw (lv_sub hl [0, 1, 2, 3] rfl)
    · have h := if_t c4 h
      refine lv_aload_n hx hb dX4_add_18 rfl (lv_at hl 0 rfl) ?_
      refine r_gi S hE hw 3 iw4_X4_add hk0 rfl (by decide) (hts _ mf21_X4_add) dX4_add_19 ?_
      refine lv_sipush (v := 4608) hx hb dX4_add_22 (by decide) ?_
      refine lv_icmp_ge (tgt := 48) hx hb dX4_add_25 (by decide) (fun c5 => ?_) (fun c5 => ?_)
      · have h := if_t c5 h
        exact w_X4_add_48 k0 hk0 S hr hlocks hE   σ p1 p2 p3 h hw (lv_sub hl [0, 1, 2, 3] rfl)
      · have h := if_f c5 h
        refine lv_aload_n hx hb dX4_add_28 rfl (lv_at hl 0 rfl) ?_
        refine r_gr S hE hw 0 (k0 + 1) iw4_X4_add hk0 rfl (by decide) rfl (hts _ mf9_X4_add) dX4_add_29 ?_
        refine lv_aload_n hx hb dX4_add_32 rfl (lv_at hl 0 rfl) ?_
        refine r_gi S hE hw 3 iw4_X4_add hk0 rfl (by decide) (hts _ mf21_X4_add) dX4_add_33 ?_
        refine lv_iload_n hx hb dX4_add_36 rfl (lv_at hl 1 rfl) ?_
        obtain ⟨s6, gs6, h⟩ := oB_out h
        refine r_as S hE hw (kr_p hk0) (kr_pl hk0) gs6 dX4_add_37 (fun H locs hw => ?_)
        refine lv_aload_n hx hb dX4_add_38 rfl (lv_at hl 0 rfl) ?_
        refine lv_dup hx hb dX4_add_39 rfl ?_
        refine r_gi S hE hw 3 iw4_X4_add hk0 rfl (by decide) (hts _ mf21_X4_add) dX4_add_40 ?_
        refine lv_iconst (v := 1) hx hb dX4_add_43 (by decide) ?_
        refine lv_iadd hx hb dX4_add_44 ?_
        obtain ⟨s7, gs7, h⟩ := bT_out h
        refine r_pi S hE hw 3 ((s6.1 k0 3) + 1) iw4_X4_add tyX4 tyX4_ok nmX4 hk0 rfl (by decide) (hts _ mf21_X4_add) rfl (ty := .int) (by decide +kernel) rfl rfl dX4_add_45 (fun H locs hw => ?_)
        rw [← gs7] at hw
        exact w_X4_add_48 k0 hk0 S hr hlocks hE   s7 p1 p2 p3 h hw (lv_sub hl [0, 1, 2, 3] rfl)


theorem mf9_X5_clear : Cond.fieldLink RX5 9 "GasVoyages$Land" "w" "I" ∈ wsX5_clear := by decide +kernel
set_option maxRecDepth 20000 in
theorem iw5_X5_clear : ∀ w ∈ u_ws RX5 TX5 3, w ∈ wsX5_clear := by decide +kernel
theorem mf15_X5_clear : Cond.fieldLink RX5 15 "GasVoyages$Land" "h" "I" ∈ wsX5_clear := by decide +kernel
theorem mf18_X5_clear : Cond.fieldLink RX5 18 "GasVoyages$Land" "kinds" "[I" ∈ wsX5_clear := by decide +kernel
def f_X5_clear (σ : St) (p1 : Int32) (p2 : Int32) : Option St := bT (up σ 1 0 p1) fun s1 => bT (up s1 1 1 p2) fun s2 => Option.bind (f_J7_fill_53178 s2 2 0) fun s3 => some s3
set_option maxRecDepth 100000 in
set_option maxHeartbeats 4000000 in
theorem c_X5_clear (l : Launch) (G : Gp) (A : Nat → Prop) (σ : St) (p1 : Int32) (p2 : Int32) {σ' : St} (h : f_X5_clear σ p1 p2 = some σ') : Kv l yX5_clear wsX5_clear 1 G A [.ref (ad G 1), .int p1, .int p2] σ σ' := by
  unfold f_X5_clear at h
  refine r_start (ws := wsX5_clear) (d := 1) (by decide) rfl [.ref (ad G 1), .int p1, .int p2] (Nat.le_of_ble_eq_true rfl) ?_
  intro p e s m below meth c S hr hlocks hE hw ls hl
  have hl : lv_has ls 3 [(0, .ref (ad G 1)), (1, .int p1), (2, .int p2)] := hl
  obtain ⟨hx, hb, hml, hown, hts⟩ := id S
  refine lv_aload_n hx hb dX5_clear_0 rfl (lv_at hl 0 rfl) ?_
  refine lv_iload_n hx hb dX5_clear_1 rfl (lv_at hl 1 rfl) ?_
  obtain ⟨s1, gs1, h⟩ := bT_out h
  refine r_pi S hE hw 0 p1 iw5_X5_clear tyX5 tyX5_ok nmX5 rfl rfl (by decide) (hts _ mf9_X5_clear) rfl (ty := .int) (by decide +kernel) rfl rfl dX5_clear_2 (fun H locs hw => ?_)
  rw [← gs1] at hw
  refine lv_aload_n hx hb dX5_clear_5 rfl (lv_at hl 0 rfl) ?_
  refine lv_iload_n hx hb dX5_clear_6 rfl (lv_at hl 2 rfl) ?_
  obtain ⟨s2, gs2, h⟩ := bT_out h
  refine r_pi S hE hw 1 p2 iw5_X5_clear tyX5 tyX5_ok nmX5 rfl rfl (by decide) (hts _ mf15_X5_clear) rfl (ty := .int) (by decide +kernel) rfl rfl dX5_clear_7 (fun H locs hw => ?_)
  rw [← gs2] at hw
  refine lv_aload_n hx hb dX5_clear_10 rfl (lv_at hl 0 rfl) ?_
  refine r_gr S hE hw 2 2 iw5_X5_clear rfl rfl (by decide) rfl (hts _ mf18_X5_clear) dX5_clear_11 ?_
  refine lv_iconst (v := 0) hx hb dX5_clear_14 (by decide) ?_
  obtain ⟨s3, gs3, h⟩ := oB_out h
  refine r_cv (r_runS (As := [.ref (ad G 2), .int 0]) (rest := []) S hE hw (c_J7_fill_53178  l G A s2 2 0 rfl gs3) (va_cwS 2 hts gX5_clear_J7_fill_53178 rfl rfl rfl (by decide +kernel) ⟨Nat.le_of_ble_eq_true rfl, Nat.le_of_ble_eq_true rfl⟩) rfl hl.1 rfl (Nat.le_of_ble_eq_true rfl) ⟨Nat.zero_le _, Nat.zero_le _⟩ dX5_clear_15) hw (fun H locs hw => ?_)
  obtain rfl := Option.some.inj h
  exact r_vret S hr hlocks hw dX5_clear_18


theorem mf18_X5_countClosed : Cond.fieldLink RX5 18 "GasVoyages$Land" "kinds" "[I" ∈ wsX5_countClosed := by decide +kernel
set_option maxRecDepth 20000 in
theorem iw5_X5_countClosed : ∀ w ∈ u_ws RX5 TX5 3, w ∈ wsX5_countClosed := by decide +kernel
def f_X5_countClosed_4 : Nat → St → Int32 → Int32 → Option Int32
  | 0, _, _, _ => none
  | n + 1, σ, x1, x2 => if 576 ≤ x2 then (some x1) else (Option.bind (aL σ 2 576 x2) fun v2 => if v2 = 2 then (f_X5_countClosed_4 n σ (x1 + 1) (x2 + 1)) else (f_X5_countClosed_4 n σ x1 (x2 + 1)))
set_option maxRecDepth 100000 in
set_option maxHeartbeats 4000000 in
theorem w_X5_countClosed_4 {p : Program} {l : Launch} {e : Env} {s : State} {m : MethodId} {args : Array Value} {below : List Frame} {meth : Method} {c : Code} {G : Gp} {A : Nat → Prop} (S : CallFix p m c cX5_countClosed 3 s args wsX5_countClosed RX5) (hr : meth.sig.returnType = (some .int)) (hlocks : meth.locks = false) (hE : Ev G A s) (n : Nat) (σ : St) (x1 : Int32) (x2 : Int32) {r : Int32} (h : f_X5_countClosed_4   n σ x1 x2 = some r) {H : Heap} {locs : List Loc} {ls : Array Slot} (hw : Ww G A σ s H locs) (hl : lv_has ls 3 [(0, .ref (ad G 1)), (1, .int x1), (2, .int x2)]) : W p l e (rmd 0) s m args below meth c H locs 0 0 (Qi below args s G A r σ) (F0 m 4 ls []) := by
  obtain ⟨hx, hb, hml, hown, hts⟩ := id S
  induction n generalizing σ x1 x2 r  H locs ls with
  | zero => cases h
  | succ n ih =>
    unfold f_X5_countClosed_4 at h
    refine lv_iload_n hx hb dX5_countClosed_4 rfl (lv_at hl 2 rfl) ?_
    refine lv_sipush (v := 576) hx hb dX5_countClosed_5 (by decide) ?_
    refine lv_icmp_ge (tgt := 30) hx hb dX5_countClosed_8 (by decide) (fun c1 => ?_) (fun c1 => ?_)
    · have h := if_t c1 h
      refine lv_iload_n hx hb dX5_countClosed_30 rfl (lv_at hl 1 rfl) ?_
      obtain rfl := Option.some.inj h
      exact r_iret S hr hlocks hw dX5_countClosed_31
    · have h := if_f c1 h
      refine lv_aload_n hx hb dX5_countClosed_11 rfl (lv_at hl 0 rfl) ?_
      refine r_gr S hE hw 2 2 iw5_X5_countClosed rfl rfl (by decide) rfl (hts _ mf18_X5_countClosed) dX5_countClosed_12 ?_
      refine lv_iload_n hx hb dX5_countClosed_15 rfl (lv_at hl 2 rfl) ?_
      obtain ⟨v2, gv2, h⟩ := oB_out h
      refine r_al S hE hw rfl rfl gv2 dX5_countClosed_16 ?_
      refine lv_iconst (v := 2) hx hb dX5_countClosed_17 (by decide) ?_
      refine lv_icmp_ne (tgt := 24) hx hb dX5_countClosed_18 (by decide) (fun c3 => ?_) (fun c3 => ?_)
      · have h := if_f c3 h
        refine lv_iinc (v := x2 + 1) (lv' := [(2, .int (x2 + 1)), (0, .ref (ad G 1)), (1, .int x1)]) hx hb dX5_countClosed_24 hl (k := 2) rfl rfl (by decide) rfl (fun ls hl => ?_)
        refine lv_goto (tgt := 4) hx hb dX5_countClosed_27 (by decide) ?_
        exact ih σ x1 (x2 + 1) h hw (lv_sub hl [1, 2, 0] rfl)
      · have h := if_t c3 h
        refine lv_iinc (v := x1 + 1) (lv' := [(1, .int (x1 + 1)), (0, .ref (ad G 1)), (2, .int x2)]) hx hb dX5_countClosed_21 hl (k := 1) rfl rfl (by decide) rfl (fun ls hl => ?_)
        refine lv_iinc (v := x2 + 1) (lv' := [(2, .int (x2 + 1)), (1, .int (x1 + 1)), (0, .ref (ad G 1))]) hx hb dX5_countClosed_24 hl (k := 2) rfl rfl (by decide) rfl (fun ls hl => ?_)
        refine lv_goto (tgt := 4) hx hb dX5_countClosed_27 (by decide) ?_
        exact ih σ (x1 + 1) (x2 + 1) h hw (lv_sub hl [2, 1, 0] rfl)

def f_X5_countClosed (σ : St) : Option Int32 := f_X5_countClosed_4 10000 σ 0 0
set_option maxRecDepth 100000 in
set_option maxHeartbeats 4000000 in
theorem c_X5_countClosed (l : Launch) (G : Gp) (A : Nat → Prop) (σ : St) {r : Int32} (h : f_X5_countClosed σ  = some r) : Ki l yX5_countClosed wsX5_countClosed 0 G A [.ref (ad G 1)] σ r σ := by
  unfold f_X5_countClosed at h
  refine r_start (ws := wsX5_countClosed) (d := 0) (by decide) rfl [.ref (ad G 1)] (Nat.le_of_ble_eq_true rfl) ?_
  intro p e s m below meth c S hr hlocks hE hw ls hl
  have hl : lv_has ls 3 [(0, .ref (ad G 1))] := hl
  obtain ⟨hx, hb, hml, hown, hts⟩ := id S
  refine lv_iconst (v := 0) hx hb dX5_countClosed_0 (by decide) ?_
  refine lv_istore_n (lv' := [(1, .int 0), (0, .ref (ad G 1))]) hx hb dX5_countClosed_1 rfl hl (by decide) rfl (fun ls hl => ?_)
  refine lv_iconst (v := 0) hx hb dX5_countClosed_2 (by decide) ?_
  refine lv_istore_n (lv' := [(2, .int 0), (1, .int 0), (0, .ref (ad G 1))]) hx hb dX5_countClosed_3 rfl hl (by decide) rfl (fun ls hl => ?_)
  exact w_X5_countClosed_4   S hr hlocks hE  10000 σ 0 0 h hw (lv_sub hl [2, 1, 0] rfl)


theorem mf11_X6_weigh : Cond.fieldLink RX6 11 "GasVoyages$Planner" "behind" "[LGasVoyages$Balloon;" ∈ wsX6_weigh := by decide +kernel
set_option maxRecDepth 20000 in
theorem iw6_X6_weigh : ∀ w ∈ u_ws RX6 TX6 11, w ∈ wsX6_weigh := by decide +kernel
theorem mf86_X6_weigh : Cond.fieldLink RX6 86 "GasVoyages$Balloon" "cell" "I" ∈ wsX6_weigh := by decide +kernel
set_option maxRecDepth 20000 in
theorem iw1_X6_weigh : ∀ w ∈ u_ws RX1 TX1 8, w ∈ wsX6_weigh := by decide +kernel
theorem mf43_X6_weigh : Cond.fieldLink RX6 43 "GasVoyages$Planner" "aim" "I" ∈ wsX6_weigh := by decide +kernel
theorem mi9_X6_weigh : Cond.initialized RX9 ∈ wsX6_weigh := by decide +kernel
theorem mtX9_squareBetween_X6_weigh : Cond.static yX9_squareBetween ∈ wsX6_weigh := by decide +kernel
theorem mf46_X6_weigh : Cond.fieldLink RX6 46 "GasVoyages$Planner" "near" "Z" ∈ wsX6_weigh := by decide +kernel
theorem mf50_X6_weigh : Cond.fieldLink RX6 50 "GasVoyages$Planner" "bestSquare" "I" ∈ wsX6_weigh := by decide +kernel
theorem mf37_X6_weigh : Cond.fieldLink RX6 37 "GasVoyages$Planner" "length" "I" ∈ wsX6_weigh := by decide +kernel
theorem mf24_X6_weigh : Cond.fieldLink RX6 24 "GasVoyages$Planner" "foundLength" "I" ∈ wsX6_weigh := by decide +kernel
theorem mf21_X6_weigh : Cond.fieldLink RX6 21 "GasVoyages$Planner" "found" "[I" ∈ wsX6_weigh := by decide +kernel
theorem mf17_X6_weigh : Cond.fieldLink RX6 17 "GasVoyages$Planner" "row" "[I" ∈ wsX6_weigh := by decide +kernel
def f_X6_weigh_83 : Nat → St → Int32 → Int32 → Option St
  | 0, _, _, _ => none
  | n + 1, σ, x1, x4 => if (σ.1 15 6) ≤ x4 then (some σ) else (if x1 ≤ x4 then (Option.bind (aS σ 18 6 x4 0) fun s3 => f_X6_weigh_83 n s3 x1 (x4 + 1)) else (Option.bind (aL σ 17 6 x4) fun v4 => Option.bind (aS σ 18 6 x4 v4) fun s5 => f_X6_weigh_83 n s5 x1 (x4 + 1)))
set_option maxRecDepth 100000 in
set_option maxHeartbeats 4000000 in
theorem w_X6_weigh_83 {p : Program} {l : Launch} {e : Env} {s : State} {m : MethodId} {args : Array Value} {below : List Frame} {meth : Method} {c : Code} {G : Gp} {A : Nat → Prop} (S : CallFix p m c cX6_weigh 5 s args wsX6_weigh RX6) (hr : meth.sig.returnType = none) (hlocks : meth.locks = false) (hE : Ev G A s) (n : Nat) (σ : St) (x1 : Int32) (x4 : Int32) {σ' : St} (h : f_X6_weigh_83   n σ x1 x4 = some σ') {H : Heap} {locs : List Loc} {ls : Array Slot} (hw : Ww G A σ s H locs) (hl : lv_has ls 5 [(0, .ref (ad G 15)), (1, .int x1), (4, .int x4)]) : W p l e (rmd 2) s m args below meth c H locs 0 0 (Qv below args s G A σ') (F0 m 83 ls []) := by
  obtain ⟨hx, hb, hml, hown, hts⟩ := id S
  induction n generalizing σ x1 x4  σ' H locs ls with
  | zero => cases h
  | succ n ih =>
    unfold f_X6_weigh_83 at h
    refine lv_iload hx hb dX6_weigh_83 (lv_at hl 2 rfl) ?_
    refine lv_aload_n hx hb dX6_weigh_85 rfl (lv_at hl 0 rfl) ?_
    refine r_gi S hE hw 6 iw6_X6_weigh rfl rfl (by decide) (hts _ mf37_X6_weigh) dX6_weigh_86 ?_
    refine lv_icmp_ge (tgt := 122) hx hb dX6_weigh_89 (by decide) (fun c1 => ?_) (fun c1 => ?_)
    · have h := if_t c1 h
      obtain rfl := Option.some.inj h
      exact r_vret S hr hlocks hw dX6_weigh_122
    · have h := if_f c1 h
      refine lv_aload_n hx hb dX6_weigh_92 rfl (lv_at hl 0 rfl) ?_
      refine r_gr S hE hw 4 18 iw6_X6_weigh rfl rfl (by decide) rfl (hts _ mf21_X6_weigh) dX6_weigh_93 ?_
      refine lv_iload hx hb dX6_weigh_96 (lv_at hl 2 rfl) ?_
      refine lv_iload hx hb dX6_weigh_98 (lv_at hl 2 rfl) ?_
      refine lv_iload_n hx hb dX6_weigh_100 rfl (lv_at hl 1 rfl) ?_
      refine lv_icmp_ge (tgt := 114) hx hb dX6_weigh_101 (by decide) (fun c2 => ?_) (fun c2 => ?_)
      · have h := if_t c2 h
        refine lv_iconst (v := 0) hx hb dX6_weigh_114 (by decide) ?_
        obtain ⟨s3, gs3, h⟩ := oB_out h
        refine r_as S hE hw rfl rfl gs3 dX6_weigh_115 (fun H locs hw => ?_)
        refine lv_iinc (v := x4 + 1) (lv' := [(4, .int (x4 + 1)), (0, .ref (ad G 15)), (1, .int x1)]) hx hb dX6_weigh_116 hl (k := 2) rfl rfl (by decide) rfl (fun ls hl => ?_)
        refine lv_goto (tgt := 83) hx hb dX6_weigh_119 (by decide) ?_
        exact ih s3 x1 (x4 + 1) h hw (lv_sub hl [1, 2, 0] rfl)
      · have h := if_f c2 h
        refine lv_aload_n hx hb dX6_weigh_104 rfl (lv_at hl 0 rfl) ?_
        refine r_gr S hE hw 3 17 iw6_X6_weigh rfl rfl (by decide) rfl (hts _ mf17_X6_weigh) dX6_weigh_105 ?_
        refine lv_iload hx hb dX6_weigh_108 (lv_at hl 2 rfl) ?_
        obtain ⟨v4, gv4, h⟩ := oB_out h
        refine r_al S hE hw rfl rfl gv4 dX6_weigh_110 ?_
        refine lv_goto (tgt := 115) hx hb dX6_weigh_111 (by decide) ?_
        obtain ⟨s5, gs5, h⟩ := oB_out h
        refine r_as S hE hw rfl rfl gs5 dX6_weigh_115 (fun H locs hw => ?_)
        refine lv_iinc (v := x4 + 1) (lv' := [(4, .int (x4 + 1)), (0, .ref (ad G 15)), (1, .int x1)]) hx hb dX6_weigh_116 hl (k := 2) rfl rfl (by decide) rfl (fun ls hl => ?_)
        refine lv_goto (tgt := 83) hx hb dX6_weigh_119 (by decide) ?_
        exact ih s5 x1 (x4 + 1) h hw (lv_sub hl [1, 2, 0] rfl)

def f_X6_weigh_67 (σ : St) (x1 : Int32) (x2 : Int32) : Option St := bT (up σ 15 10 x2) fun s1 => bT (up s1 15 5 (s1.1 15 6)) fun s2 => f_X6_weigh_83 10000 s2 x1 0
set_option maxRecDepth 100000 in
set_option maxHeartbeats 4000000 in
theorem w_X6_weigh_67 {p : Program} {l : Launch} {e : Env} {s : State} {m : MethodId} {args : Array Value} {below : List Frame} {meth : Method} {c : Code} {G : Gp} {A : Nat → Prop} (S : CallFix p m c cX6_weigh 5 s args wsX6_weigh RX6) (hr : meth.sig.returnType = none) (hlocks : meth.locks = false) (hE : Ev G A s) (σ : St) (x1 : Int32) (x2 : Int32) {σ' : St} (h : f_X6_weigh_67   σ x1 x2 = some σ') {H : Heap} {locs : List Loc} {ls : Array Slot} (hw : Ww G A σ s H locs) (hl : lv_has ls 5 [(0, .ref (ad G 15)), (1, .int x1), (2, .int x2)]) : W p l e (rmd 2) s m args below meth c H locs 0 0 (Qv below args s G A σ') (F0 m 67 ls []) := by
  obtain ⟨hx, hb, hml, hown, hts⟩ := id S
  unfold f_X6_weigh_67 at h
  refine lv_aload_n hx hb dX6_weigh_67 rfl (lv_at hl 0 rfl) ?_
  refine lv_iload_n hx hb dX6_weigh_68 rfl (lv_at hl 2 rfl) ?_
  obtain ⟨s1, gs1, h⟩ := bT_out h
  refine r_pi S hE hw 10 x2 iw6_X6_weigh tyX6 tyX6_ok nmX6 rfl rfl (by decide) (hts _ mf50_X6_weigh) rfl (ty := .int) (by decide +kernel) rfl rfl dX6_weigh_69 (fun H locs hw => ?_)
  rw [← gs1] at hw
  refine lv_aload_n hx hb dX6_weigh_72 rfl (lv_at hl 0 rfl) ?_
  refine lv_aload_n hx hb dX6_weigh_73 rfl (lv_at hl 0 rfl) ?_
  refine r_gi S hE hw 6 iw6_X6_weigh rfl rfl (by decide) (hts _ mf37_X6_weigh) dX6_weigh_74 ?_
  obtain ⟨s2, gs2, h⟩ := bT_out h
  refine r_pi S hE hw 5 (s1.1 15 6) iw6_X6_weigh tyX6 tyX6_ok nmX6 rfl rfl (by decide) (hts _ mf24_X6_weigh) rfl (ty := .int) (by decide +kernel) rfl rfl dX6_weigh_77 (fun H locs hw => ?_)
  rw [← gs2] at hw
  refine lv_iconst (v := 0) hx hb dX6_weigh_80 (by decide) ?_
  refine lv_istore (lv' := [(4, .int 0), (0, .ref (ad G 15)), (1, .int x1), (2, .int x2)]) hx hb dX6_weigh_81 hl (by decide) rfl (fun ls hl => ?_)
  exact w_X6_weigh_83   S hr hlocks hE  10000 s2 x1 0 h hw (lv_sub hl [1, 2, 0] rfl)

def f_X6_weigh_53 (σ : St) (x1 : Int32) (x2 : Int32) (y0 : Int32) : Option St := if (σ.1 15 10) = (-1) then (f_X6_weigh_67 σ x1 x2) else (if y0 = 0 then (some σ) else (f_X6_weigh_67 σ x1 x2))
set_option maxRecDepth 100000 in
set_option maxHeartbeats 4000000 in
theorem w_X6_weigh_53 {p : Program} {l : Launch} {e : Env} {s : State} {m : MethodId} {args : Array Value} {below : List Frame} {meth : Method} {c : Code} {G : Gp} {A : Nat → Prop} (S : CallFix p m c cX6_weigh 5 s args wsX6_weigh RX6) (hr : meth.sig.returnType = none) (hlocks : meth.locks = false) (hE : Ev G A s) (σ : St) (x1 : Int32) (x2 : Int32) (y0 : Int32) {σ' : St} (h : f_X6_weigh_53   σ x1 x2 y0 = some σ') {H : Heap} {locs : List Loc} {ls : Array Slot} (hw : Ww G A σ s H locs) (hl : lv_has ls 5 [(0, .ref (ad G 15)), (1, .int x1), (2, .int x2)]) : W p l e (rmd 2) s m args below meth c H locs 0 0 (Qv below args s G A σ') (F0 m 53 ls [.int y0]) := by
  obtain ⟨hx, hb, hml, hown, hts⟩ := id S
  unfold f_X6_weigh_53 at h
  refine lv_istore_n (lv' := [(3, .int y0), (0, .ref (ad G 15)), (1, .int x1), (2, .int x2)]) hx hb dX6_weigh_53 rfl hl (by decide) rfl (fun ls hl => ?_)
  refine lv_aload_n hx hb dX6_weigh_54 rfl (lv_at hl 1 rfl) ?_
  refine r_gi S hE hw 10 iw6_X6_weigh rfl rfl (by decide) (hts _ mf50_X6_weigh) dX6_weigh_55 ?_
  refine lv_iconst (v := (-1)) hx hb dX6_weigh_58 (by decide) ?_
  refine lv_icmp_eq (tgt := 67) hx hb dX6_weigh_59 (by decide) (fun c1 => ?_) (fun c1 => ?_)
  · have h := if_t c1 h
    exact w_X6_weigh_67   S hr hlocks hE   σ x1 x2 h hw (lv_sub hl [1, 2, 3] rfl)
  · have h := if_f c1 h
    refine lv_iload_n hx hb dX6_weigh_62 rfl (lv_at hl 0 rfl) ?_
    refine lv_if_ne (tgt := 67) hx hb dX6_weigh_63 (by decide) (fun c2 => ?_) (fun c2 => ?_)
    · have h := if_f c2 h
      exact w_X6_weigh_67   S hr hlocks hE   σ x1 x2 h hw (lv_sub hl [1, 2, 3] rfl)
    · have h := if_t c2 h
      obtain rfl := Option.some.inj h
      exact r_vret S hr hlocks hw dX6_weigh_66

def f_X6_weigh (σ : St) (p1 : Int32) : Option St := Option.bind (inB 7 p1) fun j1 => if (σ.1 15 9) = 0 then (if (f_X9_squareBetween (σ.1 (33 + j1) 0) (σ.1 15 8)) ≤ (σ.1 15 10) then (f_X6_weigh_53 σ p1 (f_X9_squareBetween (σ.1 (33 + j1) 0) (σ.1 15 8)) 0) else (f_X6_weigh_53 σ p1 (f_X9_squareBetween (σ.1 (33 + j1) 0) (σ.1 15 8)) 1)) else (if (σ.1 15 10) ≤ (f_X9_squareBetween (σ.1 (33 + j1) 0) (σ.1 15 8)) then (f_X6_weigh_53 σ p1 (f_X9_squareBetween (σ.1 (33 + j1) 0) (σ.1 15 8)) 0) else (f_X6_weigh_53 σ p1 (f_X9_squareBetween (σ.1 (33 + j1) 0) (σ.1 15 8)) 1))
set_option maxRecDepth 100000 in
set_option maxHeartbeats 4000000 in
theorem c_X6_weigh (l : Launch) (G : Gp) (A : Nat → Prop) (σ : St) (p1 : Int32) {σ' : St} (h : f_X6_weigh σ p1 = some σ') : Kv l yX6_weigh wsX6_weigh 2 G A [.ref (ad G 15), .int p1] σ σ' := by
  unfold f_X6_weigh at h
  refine r_start (ws := wsX6_weigh) (d := 2) (by decide) rfl [.ref (ad G 15), .int p1] (Nat.le_of_ble_eq_true rfl) ?_
  intro p e s m below meth c S hr hlocks hE hw ls hl
  have hl : lv_has ls 5 [(0, .ref (ad G 15)), (1, .int p1)] := hl
  obtain ⟨hx, hb, hml, hown, hts⟩ := id S
  refine lv_aload_n hx hb dX6_weigh_0 rfl (lv_at hl 0 rfl) ?_
  refine r_gr S hE hw 2 16 iw6_X6_weigh rfl rfl (by decide) rfl (hts _ mf11_X6_weigh) dX6_weigh_1 ?_
  refine lv_iload_n hx hb dX6_weigh_4 rfl (lv_at hl 1 rfl) ?_
  obtain ⟨j1, gj1, h⟩ := oB_out h
  refine r_rb S hE hw ⟨rfl, rfl⟩ gj1 dX6_weigh_5 ?_
  have hf2 := kd_bh (inB_in gj1).2.2
  refine r_gi S hE hw 0 iw1_X6_weigh hf2 rfl (by decide) (hts _ mf86_X6_weigh) dX6_weigh_6 ?_
  refine lv_aload_n hx hb dX6_weigh_9 rfl (lv_at hl 0 rfl) ?_
  refine r_gi S hE hw 8 iw6_X6_weigh rfl rfl (by decide) (hts _ mf43_X6_weigh) dX6_weigh_10 ?_
  refine r_ci (r_runN (As := [.int (σ.1 (33 + j1) 0), .int (σ.1 15 8)]) (rest := []) S hE hw (c_X9_squareBetween  l G A σ (σ.1 (33 + j1) 0) (σ.1 15 8)) (va_cnB 2 hts gX6_weigh_X9_squareBetween_n89 rfl rfl rfl (hE.2.2.1 (RX6, 89, yX9_squareBetween) (by decide +kernel)) (hts _ mi9_X6_weigh) (by decide +kernel) ⟨Nat.le_of_ble_eq_true rfl, Nat.le_of_ble_eq_true rfl⟩) (hts _ mtX9_squareBetween_X6_weigh) rfl hl.1 rfl (Nat.le_of_ble_eq_true rfl) ⟨Nat.zero_le _, Nat.zero_le _⟩ dX6_weigh_13) hw (fun H locs hw => ?_)
  refine lv_istore_n (lv' := [(2, .int (f_X9_squareBetween (σ.1 (33 + j1) 0) (σ.1 15 8))), (0, .ref (ad G 15)), (1, .int p1)]) hx hb dX6_weigh_16 rfl hl (by decide) rfl (fun ls hl => ?_)
  refine lv_aload_n hx hb dX6_weigh_17 rfl (lv_at hl 1 rfl) ?_
  refine r_gi S hE hw 9 iw6_X6_weigh rfl rfl (by decide) (hts _ mf46_X6_weigh) dX6_weigh_18 ?_
  refine lv_if_eq (tgt := 40) hx hb dX6_weigh_21 (by decide) (fun c3 => ?_) (fun c3 => ?_)
  · have h := if_t c3 h
    refine lv_iload_n hx hb dX6_weigh_40 rfl (lv_at hl 0 rfl) ?_
    refine lv_aload_n hx hb dX6_weigh_41 rfl (lv_at hl 1 rfl) ?_
    refine r_gi S hE hw 10 iw6_X6_weigh rfl rfl (by decide) (hts _ mf50_X6_weigh) dX6_weigh_42 ?_
    refine lv_icmp_le (tgt := 52) hx hb dX6_weigh_45 (by decide) (fun c4 => ?_) (fun c4 => ?_)
    · have h := if_t c4 h
      refine lv_iconst (v := 0) hx hb dX6_weigh_52 (by decide) ?_
      exact w_X6_weigh_53   S hr hlocks hE   σ p1 (f_X9_squareBetween (σ.1 (33 + j1) 0) (σ.1 15 8)) 0 h hw (lv_sub hl [1, 2, 0] rfl)
    · have h := if_f c4 h
      refine lv_iconst (v := 1) hx hb dX6_weigh_48 (by decide) ?_
      refine lv_goto (tgt := 53) hx hb dX6_weigh_49 (by decide) ?_
      exact w_X6_weigh_53   S hr hlocks hE   σ p1 (f_X9_squareBetween (σ.1 (33 + j1) 0) (σ.1 15 8)) 1 h hw (lv_sub hl [1, 2, 0] rfl)
  · have h := if_f c3 h
    refine lv_iload_n hx hb dX6_weigh_24 rfl (lv_at hl 0 rfl) ?_
    refine lv_aload_n hx hb dX6_weigh_25 rfl (lv_at hl 1 rfl) ?_
    refine r_gi S hE hw 10 iw6_X6_weigh rfl rfl (by decide) (hts _ mf50_X6_weigh) dX6_weigh_26 ?_
    refine lv_icmp_ge (tgt := 36) hx hb dX6_weigh_29 (by decide) (fun c5 => ?_) (fun c5 => ?_)
    · have h := if_t c5 h
      refine lv_iconst (v := 0) hx hb dX6_weigh_36 (by decide) ?_
      refine lv_goto (tgt := 53) hx hb dX6_weigh_37 (by decide) ?_
      exact w_X6_weigh_53   S hr hlocks hE   σ p1 (f_X9_squareBetween (σ.1 (33 + j1) 0) (σ.1 15 8)) 0 h hw (lv_sub hl [1, 2, 0] rfl)
    · have h := if_f c5 h
      refine lv_iconst (v := 1) hx hb dX6_weigh_32 (by decide) ?_
      refine lv_goto (tgt := 53) hx hb dX6_weigh_33 (by decide) ?_
      exact w_X6_weigh_53   S hr hlocks hE   σ p1 (f_X9_squareBetween (σ.1 (33 + j1) 0) (σ.1 15 8)) 1 h hw (lv_sub hl [1, 2, 0] rfl)


theorem mf28_X6_mayBe : Cond.fieldLink RX6 28 "GasVoyages$Planner" "land" "LGasVoyages$Land;" ∈ wsX6_mayBe := by decide +kernel
set_option maxRecDepth 20000 in
theorem iw6_X6_mayBe : ∀ w ∈ u_ws RX6 TX6 11, w ∈ wsX6_mayBe := by decide +kernel
theorem mf81_X6_mayBe : Cond.fieldLink RX6 81 "GasVoyages$Land" "kinds" "[I" ∈ wsX6_mayBe := by decide +kernel
set_option maxRecDepth 20000 in
theorem iw5_X6_mayBe : ∀ w ∈ u_ws RX5 TX5 3, w ∈ wsX6_mayBe := by decide +kernel
theorem mf86_X6_mayBe : Cond.fieldLink RX6 86 "GasVoyages$Balloon" "cell" "I" ∈ wsX6_mayBe := by decide +kernel
set_option maxRecDepth 20000 in
theorem iw1_X6_mayBe : ∀ w ∈ u_ws RX1 TX1 8, w ∈ wsX6_mayBe := by decide +kernel
theorem mf61_X6_mayBe : Cond.fieldLink RX6 61 "GasVoyages$Balloon" "landed" "Z" ∈ wsX6_mayBe := by decide +kernel
def f_X6_mayBe (σ : St) (k1 : Nat) : Option Int32 := Option.bind (aL σ 2 576 (σ.1 k1 0)) fun v1 => if v1 = 2 then (some 0) else (if (σ.1 k1 7) = 0 then (some 1) else (if v1 = 1 then (some 0) else (some 1)))
set_option maxRecDepth 100000 in
set_option maxHeartbeats 4000000 in
theorem c_X6_mayBe (l : Launch) (G : Gp) (A : Nat → Prop) (σ : St) (k1 : Nat) (hk1 : kd k1 = 1) {r : Int32} (h : f_X6_mayBe σ k1 = some r) : Kz l yX6_mayBe wsX6_mayBe 0 G A [.ref (ad G 15), .ref (ad G k1)] σ r σ := by
  unfold f_X6_mayBe at h
  refine r_start (ws := wsX6_mayBe) (d := 0) (by decide) rfl [.ref (ad G 15), .ref (ad G k1)] (Nat.le_of_ble_eq_true rfl) ?_
  intro p e s m below meth c S hr hlocks hE hw ls hl
  have hl : lv_has ls 3 [(0, .ref (ad G 15)), (1, .ref (ad G k1))] := hl
  obtain ⟨hx, hb, hml, hown, hts⟩ := id S
  refine lv_aload_n hx hb dX6_mayBe_0 rfl (lv_at hl 0 rfl) ?_
  refine r_gr S hE hw 0 1 iw6_X6_mayBe rfl rfl (by decide) rfl (hts _ mf28_X6_mayBe) dX6_mayBe_1 ?_
  refine r_gr S hE hw 2 2 iw5_X6_mayBe rfl rfl (by decide) rfl (hts _ mf81_X6_mayBe) dX6_mayBe_4 ?_
  refine lv_aload_n hx hb dX6_mayBe_7 rfl (lv_at hl 1 rfl) ?_
  refine r_gi S hE hw 0 iw1_X6_mayBe hk1 rfl (by decide) (hts _ mf86_X6_mayBe) dX6_mayBe_8 ?_
  obtain ⟨v1, gv1, h⟩ := oB_out h
  refine r_al S hE hw rfl rfl gv1 dX6_mayBe_11 ?_
  refine lv_istore_n (lv' := [(2, .int v1), (0, .ref (ad G 15)), (1, .ref (ad G k1))]) hx hb dX6_mayBe_12 rfl hl (by decide) rfl (fun ls hl => ?_)
  refine lv_iload_n hx hb dX6_mayBe_13 rfl (lv_at hl 0 rfl) ?_
  refine lv_iconst (v := 2) hx hb dX6_mayBe_14 (by decide) ?_
  refine lv_icmp_eq (tgt := 34) hx hb dX6_mayBe_15 (by decide) (fun c2 => ?_) (fun c2 => ?_)
  · have h := if_t c2 h
    refine lv_iconst (v := 0) hx hb dX6_mayBe_34 (by decide) ?_
    obtain rfl := Option.some.inj h
    exact r_zret S hr hlocks hw (Or.inl rfl) dX6_mayBe_35
  · have h := if_f c2 h
    refine lv_aload_n hx hb dX6_mayBe_18 rfl (lv_at hl 2 rfl) ?_
    refine r_gi S hE hw 7 iw1_X6_mayBe hk1 rfl (by decide) (hts _ mf61_X6_mayBe) dX6_mayBe_19 ?_
    refine lv_if_eq (tgt := 30) hx hb dX6_mayBe_22 (by decide) (fun c3 => ?_) (fun c3 => ?_)
    · have h := if_t c3 h
      refine lv_iconst (v := 1) hx hb dX6_mayBe_30 (by decide) ?_
      refine lv_goto (tgt := 35) hx hb dX6_mayBe_31 (by decide) ?_
      obtain rfl := Option.some.inj h
      exact r_zret S hr hlocks hw (Or.inr rfl) dX6_mayBe_35
    · have h := if_f c3 h
      refine lv_iload_n hx hb dX6_mayBe_25 rfl (lv_at hl 0 rfl) ?_
      refine lv_iconst (v := 1) hx hb dX6_mayBe_26 (by decide) ?_
      refine lv_icmp_eq (tgt := 34) hx hb dX6_mayBe_27 (by decide) (fun c4 => ?_) (fun c4 => ?_)
      · have h := if_t c4 h
        refine lv_iconst (v := 0) hx hb dX6_mayBe_34 (by decide) ?_
        obtain rfl := Option.some.inj h
        exact r_zret S hr hlocks hw (Or.inl rfl) dX6_mayBe_35
      · have h := if_f c4 h
        refine lv_iconst (v := 1) hx hb dX6_mayBe_30 (by decide) ?_
        refine lv_goto (tgt := 35) hx hb dX6_mayBe_31 (by decide) ?_
        obtain rfl := Option.some.inj h
        exact r_zret S hr hlocks hw (Or.inr rfl) dX6_mayBe_35


theorem mf37_X6_tryFrom : Cond.fieldLink RX6 37 "GasVoyages$Planner" "length" "I" ∈ wsX6_tryFrom := by decide +kernel
set_option maxRecDepth 20000 in
theorem iw6_X6_tryFrom : ∀ w ∈ u_ws RX6 TX6 11, w ∈ wsX6_tryFrom := by decide +kernel
theorem mf11_X6_tryFrom : Cond.fieldLink RX6 11 "GasVoyages$Planner" "behind" "[LGasVoyages$Balloon;" ∈ wsX6_tryFrom := by decide +kernel
theorem mf61_X6_tryFrom : Cond.fieldLink RX6 61 "GasVoyages$Balloon" "landed" "Z" ∈ wsX6_tryFrom := by decide +kernel
set_option maxRecDepth 20000 in
theorem iw1_X6_tryFrom : ∀ w ∈ u_ws RX1 TX1 8, w ∈ wsX6_tryFrom := by decide +kernel
theorem mf40_X6_tryFrom : Cond.fieldLink RX6 40 "GasVoyages$Planner" "dose" "I" ∈ wsX6_tryFrom := by decide +kernel
theorem mf32_X6_tryFrom : Cond.fieldLink RX6 32 "GasVoyages$Planner" "air" "LGasVoyages$Air;" ∈ wsX6_tryFrom := by decide +kernel
theorem mf67_X6_tryFrom : Cond.fieldLink RX6 67 "GasVoyages$Air" "forecast" "LGasVoyages$Winds;" ∈ wsX6_tryFrom := by decide +kernel
set_option maxRecDepth 20000 in
theorem iw0_X6_tryFrom : ∀ w ∈ u_ws RX0 TX0 5, w ∈ wsX6_tryFrom := by decide +kernel
theorem mf28_X6_tryFrom : Cond.fieldLink RX6 28 "GasVoyages$Planner" "land" "LGasVoyages$Land;" ∈ wsX6_tryFrom := by decide +kernel
theorem mf17_X6_tryFrom : Cond.fieldLink RX6 17 "GasVoyages$Planner" "row" "[I" ∈ wsX6_tryFrom := by decide +kernel
def f_X6_tryFrom_43 (fr : St → Int32 → Option St) : Nat → St → Int32 → Nat → Int32 → Option St
  | 0, _, _, _, _ => none
  | n + 1, σ, x1, q2, x3 => if 3 ≤ x3 then (some σ) else (Option.bind (inB 7 x1) fun j2 => Option.bind (f_X1_copyOf σ q2 (33 + j2)) fun s4 => Option.bind (f_X1_pass s4 q2 x3 (s4.1 15 7) 10) fun s5 => Option.bind (f_X6_mayBe s5 q2) fun v6 => if v6 = 0 then (f_X6_tryFrom_43 fr n s5 x1 q2 (x3 + 1)) else (Option.bind (aS s5 17 6 x1 x3) fun s9 => Option.bind (fr s9 (x1 + 1)) fun s10 => f_X6_tryFrom_43 fr n s10 x1 q2 (x3 + 1)))
set_option maxRecDepth 100000 in
set_option maxHeartbeats 4000000 in
theorem w_X6_tryFrom_43 {p : Program} {l : Launch} {e : Env} {s : State} {m : MethodId} {args : Array Value} {below : List Frame} {meth : Method} {c : Code} {G : Gp} {A : Nat → Prop} (fr : St → Int32 → Option St) (nr : Nat) (ihr : ∀ (G : Gp) (A : Nat → Prop) (σ : St) (p1 : Int32) {σ' : St}, fr σ p1 = some σ' → Kv l yX6_tryFrom wsX6_tryFrom (5 + nr) G A [.ref (ad G 15), .int p1] σ σ') (S : CallFix p m c cX6_tryFrom 4 s args wsX6_tryFrom RX6) (hr : meth.sig.returnType = none) (hlocks : meth.locks = false) (hE : Ev G A s) (n : Nat) (σ : St) (x1 : Int32) (q2 : Nat) (x3 : Int32) (hq2 : kd q2 = 1) {σ' : St} (h : f_X6_tryFrom_43  fr  n σ x1 q2 x3 = some σ') {H : Heap} {locs : List Loc} {ls : Array Slot} (hw : Ww G A σ s H locs) (hl : lv_has ls 4 [(0, .ref (ad G 15)), (1, .int x1), (2, .ref (ad G q2)), (3, .int x3)]) : W p l e (rmd (5 + nr + 1)) s m args below meth c H locs 0 0 (Qv below args s G A σ') (F0 m 43 ls []) := by
  obtain ⟨hx, hb, hml, hown, hts⟩ := id S
  induction n generalizing σ x1 q2 x3  σ' H locs ls with
  | zero => cases h
  | succ n ih =>
    unfold f_X6_tryFrom_43 at h
    refine lv_iload_n hx hb dX6_tryFrom_43 rfl (lv_at hl 3 rfl) ?_
    refine lv_iconst (v := 3) hx hb dX6_tryFrom_44 (by decide) ?_
    refine lv_icmp_ge (tgt := 110) hx hb dX6_tryFrom_45 (by decide) (fun c1 => ?_) (fun c1 => ?_)
    · have h := if_t c1 h
      obtain rfl := Option.some.inj h
      exact r_vret S hr hlocks hw dX6_tryFrom_110
    · have h := if_f c1 h
      refine lv_aload_n hx hb dX6_tryFrom_48 rfl (lv_at hl 2 rfl) ?_
      refine lv_aload_n hx hb dX6_tryFrom_49 rfl (lv_at hl 0 rfl) ?_
      refine r_gr S hE hw 2 16 iw6_X6_tryFrom rfl rfl (by decide) rfl (hts _ mf11_X6_tryFrom) dX6_tryFrom_50 ?_
      refine lv_iload_n hx hb dX6_tryFrom_53 rfl (lv_at hl 1 rfl) ?_
      obtain ⟨j2, gj2, h⟩ := oB_out h
      refine r_rb S hE hw ⟨rfl, rfl⟩ gj2 dX6_tryFrom_54 ?_
      have hf3 := kd_bh (inB_in gj2).2.2
      obtain ⟨s4, gs4, h⟩ := oB_out h
      refine r_cv (r_runV (k := q2) (ci := 1) (As := [.ref (ad G (33 + j2))]) (rest := []) S hE hw (c_X1_copyOf  l G A σ q2 (33 + j2) hq2 hf3 gs4) (cwV 1 hts gX6_tryFrom_X1_copyOf rfl rfl rfl (by decide +kernel) ⟨by simp only [rmd]; omega, by simp only [rmd]; omega⟩) hq2 rfl (by decide) rfl hl.1 rfl (Nat.le_of_ble_eq_true rfl) ⟨Nat.zero_le _, Nat.zero_le _⟩ dX6_tryFrom_55) hw (fun H locs hw => ?_)
      refine lv_aload_n hx hb dX6_tryFrom_58 rfl (lv_at hl 2 rfl) ?_
      refine lv_iload_n hx hb dX6_tryFrom_59 rfl (lv_at hl 3 rfl) ?_
      refine lv_aload_n hx hb dX6_tryFrom_60 rfl (lv_at hl 0 rfl) ?_
      refine r_gi S hE hw 7 iw6_X6_tryFrom rfl rfl (by decide) (hts _ mf40_X6_tryFrom) dX6_tryFrom_61 ?_
      refine lv_aload_n hx hb dX6_tryFrom_64 rfl (lv_at hl 0 rfl) ?_
      refine r_gr S hE hw 1 3 iw6_X6_tryFrom rfl rfl (by decide) rfl (hts _ mf32_X6_tryFrom) dX6_tryFrom_65 ?_
      refine lv_aload_n hx hb dX6_tryFrom_68 rfl (lv_at hl 0 rfl) ?_
      refine r_gr S hE hw 1 3 iw6_X6_tryFrom rfl rfl (by decide) rfl (hts _ mf32_X6_tryFrom) dX6_tryFrom_69 ?_
      refine r_gr S hE hw 4 10 iw0_X6_tryFrom rfl rfl (by decide) rfl (hts _ mf67_X6_tryFrom) dX6_tryFrom_72 ?_
      refine lv_aload_n hx hb dX6_tryFrom_75 rfl (lv_at hl 0 rfl) ?_
      refine r_gr S hE hw 0 1 iw6_X6_tryFrom rfl rfl (by decide) rfl (hts _ mf28_X6_tryFrom) dX6_tryFrom_76 ?_
      obtain ⟨s5, gs5, h⟩ := oB_out h
      refine r_cv (r_runV (k := q2) (ci := 1) (As := [.int x3, .int (s4.1 15 7), .ref (ad G 3), .ref (ad G 10), .ref (ad G 1)]) (rest := []) S hE hw (c_X1_pass  l G A s4 q2 x3 (s4.1 15 7) 10 hq2 rfl gs5) (cwV 5 hts gX6_tryFrom_X1_pass rfl rfl rfl (by decide +kernel) ⟨by simp only [rmd]; omega, by simp only [rmd]; omega⟩) hq2 rfl (by decide) rfl hl.1 rfl (Nat.le_of_ble_eq_true rfl) ⟨Nat.zero_le _, Nat.zero_le _⟩ dX6_tryFrom_79) hw (fun H locs hw => ?_)
      refine lv_aload_n hx hb dX6_tryFrom_82 rfl (lv_at hl 0 rfl) ?_
      refine lv_aload_n hx hb dX6_tryFrom_83 rfl (lv_at hl 2 rfl) ?_
      obtain ⟨v6, gv6, h⟩ := oB_out h
      refine r_cz (r_runV (k := 15) (ci := 6) (As := [.ref (ad G q2)]) (rest := []) S hE hw (c_X6_mayBe  l G A s5 q2 hq2 gv6) (cwV 1 hts gX6_tryFrom_X6_mayBe rfl rfl rfl (by decide +kernel) ⟨by simp only [rmd]; omega, by simp only [rmd]; omega⟩) rfl rfl (by decide) rfl hl.1 rfl (Nat.le_of_ble_eq_true rfl) ⟨Nat.zero_le _, Nat.zero_le _⟩ dX6_tryFrom_84) hw (fun H locs hw hb7 => ?_)
      refine lv_if_eq (tgt := 104) hx hb dX6_tryFrom_87 (by decide) (fun c8 => ?_) (fun c8 => ?_)
      · have h := if_t c8 h
        refine lv_iinc (v := x3 + 1) (lv' := [(3, .int (x3 + 1)), (0, .ref (ad G 15)), (1, .int x1), (2, .ref (ad G q2))]) hx hb dX6_tryFrom_104 hl (k := 3) rfl rfl (by decide) rfl (fun ls hl => ?_)
        refine lv_goto (tgt := 43) hx hb dX6_tryFrom_107 (by decide) ?_
        exact ih s5 x1 q2 (x3 + 1) hq2 h hw (lv_sub hl [1, 2, 3, 0] rfl)
      · have h := if_f c8 h
        refine lv_aload_n hx hb dX6_tryFrom_90 rfl (lv_at hl 0 rfl) ?_
        refine r_gr S hE hw 3 17 iw6_X6_tryFrom rfl rfl (by decide) rfl (hts _ mf17_X6_tryFrom) dX6_tryFrom_91 ?_
        refine lv_iload_n hx hb dX6_tryFrom_94 rfl (lv_at hl 1 rfl) ?_
        refine lv_iload_n hx hb dX6_tryFrom_95 rfl (lv_at hl 3 rfl) ?_
        obtain ⟨s9, gs9, h⟩ := oB_out h
        refine r_as S hE hw rfl rfl gs9 dX6_tryFrom_96 (fun H locs hw => ?_)
        refine lv_aload_n hx hb dX6_tryFrom_97 rfl (lv_at hl 0 rfl) ?_
        refine lv_iload_n hx hb dX6_tryFrom_98 rfl (lv_at hl 1 rfl) ?_
        refine lv_iconst (v := 1) hx hb dX6_tryFrom_99 (by decide) ?_
        refine lv_iadd hx hb dX6_tryFrom_100 ?_
        obtain ⟨s10, gs10, h⟩ := oB_out h
        refine r_cv (r_runV (k := 15) (ci := 6) (As := [.int (x1 + 1)]) (rest := []) S hE hw (ihr G A s9 (x1 + 1) gs10) (cwV 1 hts gX6_tryFrom_X6_tryFrom rfl rfl rfl (by decide +kernel) ⟨by simp only [rmd]; omega, by simp only [rmd]; omega⟩) rfl rfl (by decide) rfl hl.1 rfl (Nat.le_of_ble_eq_true rfl) ⟨Nat.zero_le _, Nat.zero_le _⟩ dX6_tryFrom_101) hw (fun H locs hw => ?_)
        refine lv_iinc (v := x3 + 1) (lv' := [(3, .int (x3 + 1)), (0, .ref (ad G 15)), (1, .int x1), (2, .ref (ad G q2))]) hx hb dX6_tryFrom_104 hl (k := 3) rfl rfl (by decide) rfl (fun ls hl => ?_)
        refine lv_goto (tgt := 43) hx hb dX6_tryFrom_107 (by decide) ?_
        exact ih s10 x1 q2 (x3 + 1) hq2 h hw (lv_sub hl [1, 2, 3, 0] rfl)

def f_X6_tryFrom : Nat → St → Int32 → Option St
  | 0, _, _ => none
  | nr + 1, σ, p1 => if (σ.1 15 6) ≤ p1 then (Option.bind (f_X6_weigh σ p1) fun s2 => some s2) else (if 6 ≤ p1 then (Option.bind (f_X6_weigh σ p1) fun s4 => some s4) else (Option.bind (inB 7 p1) fun j5 => if (σ.1 (33 + j5) 7) = 0 then (Option.bind (inB 7 (p1 + 1)) fun j8 => f_X6_tryFrom_43 (f_X6_tryFrom nr) 10000 σ p1 (33 + j8) 0) else (Option.bind (f_X6_weigh σ p1) fun s10 => some s10)))
set_option maxRecDepth 100000 in
set_option maxHeartbeats 4000000 in
theorem cs_X6_tryFrom (l : Launch) (nr : Nat) (ihr : ∀ (G : Gp) (A : Nat → Prop) (σ : St) (p1 : Int32) {σ' : St}, f_X6_tryFrom nr σ p1 = some σ' → Kv l yX6_tryFrom wsX6_tryFrom (5 + nr) G A [.ref (ad G 15), .int p1] σ σ') (G : Gp) (A : Nat → Prop) (σ : St) (p1 : Int32) {σ' : St} (h : f_X6_tryFrom (nr + 1) σ p1 = some σ') : Kv l yX6_tryFrom wsX6_tryFrom (5 + nr + 1) G A [.ref (ad G 15), .int p1] σ σ' := by
  unfold f_X6_tryFrom at h
  refine r_start (ws := wsX6_tryFrom) (d := (5 + nr + 1)) (by decide) rfl [.ref (ad G 15), .int p1] (Nat.le_of_ble_eq_true rfl) ?_
  intro p e s m below meth c S hr hlocks hE hw ls hl
  have hl : lv_has ls 4 [(0, .ref (ad G 15)), (1, .int p1)] := hl
  obtain ⟨hx, hb, hml, hown, hts⟩ := id S
  refine lv_iload_n hx hb dX6_tryFrom_0 rfl (lv_at hl 1 rfl) ?_
  refine lv_aload_n hx hb dX6_tryFrom_1 rfl (lv_at hl 0 rfl) ?_
  refine r_gi S hE hw 6 iw6_X6_tryFrom rfl rfl (by decide) (hts _ mf37_X6_tryFrom) dX6_tryFrom_2 ?_
  refine lv_icmp_ge (tgt := 26) hx hb dX6_tryFrom_5 (by decide) (fun c1 => ?_) (fun c1 => ?_)
  · have h := if_t c1 h
    refine lv_aload_n hx hb dX6_tryFrom_26 rfl (lv_at hl 0 rfl) ?_
    refine lv_iload_n hx hb dX6_tryFrom_27 rfl (lv_at hl 1 rfl) ?_
    obtain ⟨s2, gs2, h⟩ := oB_out h
    refine r_cv (r_runV (k := 15) (ci := 6) (As := [.int p1]) (rest := []) S hE hw (c_X6_weigh  l G A σ p1 gs2) (cwV 1 hts gX6_tryFrom_X6_weigh rfl rfl rfl (by decide +kernel) ⟨by simp only [rmd]; omega, by simp only [rmd]; omega⟩) rfl rfl (by decide) rfl hl.1 rfl (Nat.le_of_ble_eq_true rfl) ⟨Nat.zero_le _, Nat.zero_le _⟩ dX6_tryFrom_28) hw (fun H locs hw => ?_)
    obtain rfl := Option.some.inj h
    exact r_vret S hr hlocks hw dX6_tryFrom_31
  · have h := if_f c1 h
    refine lv_iload_n hx hb dX6_tryFrom_8 rfl (lv_at hl 1 rfl) ?_
    refine lv_bipush (v := 6) hx hb dX6_tryFrom_9 (by decide) ?_
    refine lv_icmp_ge (tgt := 26) hx hb dX6_tryFrom_11 (by decide) (fun c3 => ?_) (fun c3 => ?_)
    · have h := if_t c3 h
      refine lv_aload_n hx hb dX6_tryFrom_26 rfl (lv_at hl 0 rfl) ?_
      refine lv_iload_n hx hb dX6_tryFrom_27 rfl (lv_at hl 1 rfl) ?_
      obtain ⟨s4, gs4, h⟩ := oB_out h
      refine r_cv (r_runV (k := 15) (ci := 6) (As := [.int p1]) (rest := []) S hE hw (c_X6_weigh  l G A σ p1 gs4) (cwV 1 hts gX6_tryFrom_X6_weigh rfl rfl rfl (by decide +kernel) ⟨by simp only [rmd]; omega, by simp only [rmd]; omega⟩) rfl rfl (by decide) rfl hl.1 rfl (Nat.le_of_ble_eq_true rfl) ⟨Nat.zero_le _, Nat.zero_le _⟩ dX6_tryFrom_28) hw (fun H locs hw => ?_)
      obtain rfl := Option.some.inj h
      exact r_vret S hr hlocks hw dX6_tryFrom_31
    · have h := if_f c3 h
      refine lv_aload_n hx hb dX6_tryFrom_14 rfl (lv_at hl 0 rfl) ?_
      refine r_gr S hE hw 2 16 iw6_X6_tryFrom rfl rfl (by decide) rfl (hts _ mf11_X6_tryFrom) dX6_tryFrom_15 ?_
      refine lv_iload_n hx hb dX6_tryFrom_18 rfl (lv_at hl 1 rfl) ?_
      obtain ⟨j5, gj5, h⟩ := oB_out h
      refine r_rb S hE hw ⟨rfl, rfl⟩ gj5 dX6_tryFrom_19 ?_
      have hf6 := kd_bh (inB_in gj5).2.2
      refine r_gi S hE hw 7 iw1_X6_tryFrom hf6 rfl (by decide) (hts _ mf61_X6_tryFrom) dX6_tryFrom_20 ?_
      refine lv_if_eq (tgt := 32) hx hb dX6_tryFrom_23 (by decide) (fun c7 => ?_) (fun c7 => ?_)
      · have h := if_t c7 h
        refine lv_aload_n hx hb dX6_tryFrom_32 rfl (lv_at hl 0 rfl) ?_
        refine r_gr S hE hw 2 16 iw6_X6_tryFrom rfl rfl (by decide) rfl (hts _ mf11_X6_tryFrom) dX6_tryFrom_33 ?_
        refine lv_iload_n hx hb dX6_tryFrom_36 rfl (lv_at hl 1 rfl) ?_
        refine lv_iconst (v := 1) hx hb dX6_tryFrom_37 (by decide) ?_
        refine lv_iadd hx hb dX6_tryFrom_38 ?_
        obtain ⟨j8, gj8, h⟩ := oB_out h
        refine r_rb S hE hw ⟨rfl, rfl⟩ gj8 dX6_tryFrom_39 ?_
        have hf9 := kd_bh (inB_in gj8).2.2
        refine lv_astore_n (lv' := [(2, .ref (ad G (33 + j8))), (0, .ref (ad G 15)), (1, .int p1)]) hx hb dX6_tryFrom_40 rfl hl (by decide) rfl (fun ls hl => ?_)
        refine lv_iconst (v := 0) hx hb dX6_tryFrom_41 (by decide) ?_
        refine lv_istore_n (lv' := [(3, .int 0), (2, .ref (ad G (33 + j8))), (0, .ref (ad G 15)), (1, .int p1)]) hx hb dX6_tryFrom_42 rfl hl (by decide) rfl (fun ls hl => ?_)
        exact w_X6_tryFrom_43  (f_X6_tryFrom nr) nr  ihr S hr hlocks hE  10000 σ p1 (33 + j8) 0 hf9 h hw (lv_sub hl [2, 3, 1, 0] rfl)
      · have h := if_f c7 h
        refine lv_aload_n hx hb dX6_tryFrom_26 rfl (lv_at hl 0 rfl) ?_
        refine lv_iload_n hx hb dX6_tryFrom_27 rfl (lv_at hl 1 rfl) ?_
        obtain ⟨s10, gs10, h⟩ := oB_out h
        refine r_cv (r_runV (k := 15) (ci := 6) (As := [.int p1]) (rest := []) S hE hw (c_X6_weigh  l G A σ p1 gs10) (cwV 1 hts gX6_tryFrom_X6_weigh rfl rfl rfl (by decide +kernel) ⟨by simp only [rmd]; omega, by simp only [rmd]; omega⟩) rfl rfl (by decide) rfl hl.1 rfl (Nat.le_of_ble_eq_true rfl) ⟨Nat.zero_le _, Nat.zero_le _⟩ dX6_tryFrom_28) hw (fun H locs hw => ?_)
        obtain rfl := Option.some.inj h
        exact r_vret S hr hlocks hw dX6_tryFrom_31
set_option maxRecDepth 100000 in
set_option maxHeartbeats 4000000 in
theorem c_X6_tryFrom (nr : Nat) (l : Launch) (G : Gp) (A : Nat → Prop) (σ : St) (p1 : Int32) {σ' : St} (h : f_X6_tryFrom nr σ p1 = some σ') : Kv l yX6_tryFrom wsX6_tryFrom (5 + nr) G A [.ref (ad G 15), .int p1] σ σ' := by
  induction nr generalizing G A σ p1 σ' with
  | zero => cases h
  | succ nr ih => exact cs_X6_tryFrom l nr (fun G A σ p1  _ h => ih G A σ p1  h) G A σ p1  h

