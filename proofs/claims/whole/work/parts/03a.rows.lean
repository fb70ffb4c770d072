theorem mf9_X1_copyOf : Cond.fieldLink RX1 9 "GasVoyages$Balloon" "cell" "I" ∈ wsX1_copyOf := by decide +kernel
set_option maxRecDepth 20000 in
theorem iw1_X1_copyOf : ∀ w ∈ u_ws RX1 TX1 8, w ∈ wsX1_copyOf := by decide +kernel
theorem mf15_X1_copyOf : Cond.fieldLink RX1 15 "GasVoyages$Balloon" "level" "I" ∈ wsX1_copyOf := by decide +kernel
theorem mf18_X1_copyOf : Cond.fieldLink RX1 18 "GasVoyages$Balloon" "tick" "I" ∈ wsX1_copyOf := by decide +kernel
theorem mf21_X1_copyOf : Cond.fieldLink RX1 21 "GasVoyages$Balloon" "load" "I" ∈ wsX1_copyOf := by decide +kernel
theorem mf24_X1_copyOf : Cond.fieldLink RX1 24 "GasVoyages$Balloon" "gas" "I" ∈ wsX1_copyOf := by decide +kernel
theorem mf27_X1_copyOf : Cond.fieldLink RX1 27 "GasVoyages$Balloon" "ballast" "I" ∈ wsX1_copyOf := by decide +kernel
theorem mf30_X1_copyOf : Cond.fieldLink RX1 30 "GasVoyages$Balloon" "vented" "I" ∈ wsX1_copyOf := by decide +kernel
theorem mf33_X1_copyOf : Cond.fieldLink RX1 33 "GasVoyages$Balloon" "landed" "Z" ∈ wsX1_copyOf := by decide +kernel
def f_X1_copyOf (σ : St) (k0 : Nat) (k1 : Nat) : Option St := bT (up σ k0 0 (σ.1 k1 0)) fun s1 => bT (up s1 k0 1 (s1.1 k1 1)) fun s2 => bT (up s2 k0 2 (s2.1 k1 2)) fun s3 => bT (up s3 k0 3 (s3.1 k1 3)) fun s4 => bT (up s4 k0 4 (s4.1 k1 4)) fun s5 => bT (up s5 k0 5 (s5.1 k1 5)) fun s6 => bT (up s6 k0 6 (s6.1 k1 6)) fun s7 => Option.bind (pZ s7 k0 7 (s7.1 k1 7)) fun s8 => some s8
set_option maxRecDepth 100000 in
set_option maxHeartbeats 4000000 in
theorem c_X1_copyOf (l : Launch) (G : Gp) (A : Nat → Prop) (σ : St) (k0 : Nat) (k1 : Nat) (hk0 : kd k0 = 1) (hk1 : kd k1 = 1) {σ' : St} (h : f_X1_copyOf σ k0 k1 = some σ') : Kv l yX1_copyOf wsX1_copyOf 0 G A [.ref (ad G k0), .ref (ad G k1)] σ σ' := by
  unfold f_X1_copyOf at h
  refine r_start (ws := wsX1_copyOf) (d := 0) (by decide) rfl [.ref (ad G k0), .ref (ad G k1)] (Nat.le_of_ble_eq_true rfl) ?_
  intro p e s m below meth c S hr hlocks hE hw ls hl
  have hl : lv_has ls 2 [(0, .ref (ad G k0)), (1, .ref (ad G k1))] := hl
  obtain ⟨hx, hb, hml, hown, hts⟩ := id S
  refine lv_aload_n hx hb dX1_copyOf_0 rfl (lv_at hl 0 rfl) ?_
  refine lv_aload_n hx hb dX1_copyOf_1 rfl (lv_at hl 1 rfl) ?_
  refine r_gi S hE hw 0 iw1_X1_copyOf hk1 rfl (by decide) (hts _ mf9_X1_copyOf) dX1_copyOf_2 ?_
  obtain ⟨s1, gs1, h⟩ := bT_out h
  refine r_pi S hE hw 0 (σ.1 k1 0) iw1_X1_copyOf tyX1 tyX1_ok nmX1 hk0 rfl (by decide) (hts _ mf9_X1_copyOf) rfl (ty := .int) (by decide +kernel) rfl rfl dX1_copyOf_5 (fun H locs hw => ?_)
  rw [← gs1] at hw
  refine lv_aload_n hx hb dX1_copyOf_8 rfl (lv_at hl 0 rfl) ?_
  refine lv_aload_n hx hb dX1_copyOf_9 rfl (lv_at hl 1 rfl) ?_
  refine r_gi S hE hw 1 iw1_X1_copyOf hk1 rfl (by decide) (hts _ mf15_X1_copyOf) dX1_copyOf_10 ?_
  obtain ⟨s2, gs2, h⟩ := bT_out h
  refine r_pi S hE hw 1 (s1.1 k1 1) iw1_X1_copyOf tyX1 tyX1_ok nmX1 hk0 rfl (by decide) (hts _ mf15_X1_copyOf) rfl (ty := .int) (by decide +kernel) rfl rfl dX1_copyOf_13 (fun H locs hw => ?_)
  rw [← gs2] at hw
  refine lv_aload_n hx hb dX1_copyOf_16 rfl (lv_at hl 0 rfl) ?_
  refine lv_aload_n hx hb dX1_copyOf_17 rfl (lv_at hl 1 rfl) ?_
  refine r_gi S hE hw 2 iw1_X1_copyOf hk1 rfl (by decide) (hts _ mf18_X1_copyOf) dX1_copyOf_18 ?_
  obtain ⟨s3, gs3, h⟩ := bT_out h
  refine r_pi S hE hw 2 (s2.1 k1 2) iw1_X1_copyOf tyX1 tyX1_ok nmX1 hk0 rfl (by decide) (hts _ mf18_X1_copyOf) rfl (ty := .int) (by decide +kernel) rfl rfl dX1_copyOf_21 (fun H locs hw => ?_)
  rw [← gs3] at hw
  refine lv_aload_n hx hb dX1_copyOf_24 rfl (lv_at hl 0 rfl) ?_
  refine lv_aload_n hx hb dX1_copyOf_25 rfl (lv_at hl 1 rfl) ?_
  refine r_gi S hE hw 3 iw1_X1_copyOf hk1 rfl (by decide) (hts _ mf21_X1_copyOf) dX1_copyOf_26 ?_
  obtain ⟨s4, gs4, h⟩ := bT_out h
  refine r_pi S hE hw 3 (s3.1 k1 3) iw1_X1_copyOf tyX1 tyX1_ok nmX1 hk0 rfl (by decide) (hts _ mf21_X1_copyOf) rfl (ty := .int) (by decide +kernel) rfl rfl dX1_copyOf_29 (fun H locs hw => ?_)
  rw [← gs4] at hw
  refine lv_aload_n hx hb dX1_copyOf_32 rfl (lv_at hl 0 rfl) ?_
  refine lv_aload_n hx hb dX1_copyOf_33 rfl (lv_at hl 1 rfl) ?_
  refine r_gi S hE hw 4 iw1_X1_copyOf hk1 rfl (by decide) (hts _ mf24_X1_copyOf) dX1_copyOf_34 ?_
  obtain ⟨s5, gs5, h⟩ := bT_out h
  refine r_pi S hE hw 4 (s4.1 k1 4) iw1_X1_copyOf tyX1 tyX1_ok nmX1 hk0 rfl (by decide) (hts _ mf24_X1_copyOf) rfl (ty := .int) (by decide +kernel) rfl rfl dX1_copyOf_37 (fun H locs hw => ?_)
  rw [← gs5] at hw
  refine lv_aload_n hx hb dX1_copyOf_40 rfl (lv_at hl 0 rfl) ?_
  refine lv_aload_n hx hb dX1_copyOf_41 rfl (lv_at hl 1 rfl) ?_
  refine r_gi S hE hw 5 iw1_X1_copyOf hk1 rfl (by decide) (hts _ mf27_X1_copyOf) dX1_copyOf_42 ?_
  obtain ⟨s6, gs6, h⟩ := bT_out h
  refine r_pi S hE hw 5 (s5.1 k1 5) iw1_X1_copyOf tyX1 tyX1_ok nmX1 hk0 rfl (by decide) (hts _ mf27_X1_copyOf) rfl (ty := .int) (by decide +kernel) rfl rfl dX1_copyOf_45 (fun H locs hw => ?_)
  rw [← gs6] at hw
  refine lv_aload_n hx hb dX1_copyOf_48 rfl (lv_at hl 0 rfl) ?_
  refine lv_aload_n hx hb dX1_copyOf_49 rfl (lv_at hl 1 rfl) ?_
  refine r_gi S hE hw 6 iw1_X1_copyOf hk1 rfl (by decide) (hts _ mf30_X1_copyOf) dX1_copyOf_50 ?_
  obtain ⟨s7, gs7, h⟩ := bT_out h
  refine r_pi S hE hw 6 (s6.1 k1 6) iw1_X1_copyOf tyX1 tyX1_ok nmX1 hk0 rfl (by decide) (hts _ mf30_X1_copyOf) rfl (ty := .int) (by decide +kernel) rfl rfl dX1_copyOf_53 (fun H locs hw => ?_)
  rw [← gs7] at hw
  refine lv_aload_n hx hb dX1_copyOf_56 rfl (lv_at hl 0 rfl) ?_
  refine lv_aload_n hx hb dX1_copyOf_57 rfl (lv_at hl 1 rfl) ?_
  refine r_gi S hE hw 7 iw1_X1_copyOf hk1 rfl (by decide) (hts _ mf33_X1_copyOf) dX1_copyOf_58 ?_
  obtain ⟨s8, gs8, h⟩ := oB_out h
  refine r_pi S hE hw 7 (s7.1 k1 7) iw1_X1_copyOf tyX1 tyX1_ok nmX1 hk0 rfl (by decide) (hts _ mf33_X1_copyOf) rfl (ty := .boolean) (by decide +kernel) (bl_nar (pZ_in gs8).1) (bl_fit (pZ_in gs8).1) dX1_copyOf_61 (fun H locs hw => ?_)
  rw [(pZ_in gs8).2] at hw
  obtain rfl := Option.some.inj h
  exact r_vret S hr hlocks hw dX1_copyOf_64


theorem mf18_X1_hour : Cond.fieldLink RX1 18 "GasVoyages$Balloon" "tick" "I" ∈ wsX1_hour := by decide +kernel
set_option maxRecDepth 20000 in
theorem iw1_X1_hour : ∀ w ∈ u_ws RX1 TX1 8, w ∈ wsX1_hour := by decide +kernel
def f_X1_hour (σ : St) (k0 : Nat) : Int32 := (σ.1 k0 2) - (σ.1 k0 2) / 24 * 24
set_option maxRecDepth 100000 in
set_option maxHeartbeats 4000000 in
theorem c_X1_hour (l : Launch) (G : Gp) (A : Nat → Prop) (σ : St) (k0 : Nat) (hk0 : kd k0 = 1) : Ki l yX1_hour wsX1_hour 0 G A [.ref (ad G k0)] σ (f_X1_hour σ k0) σ := by
  obtain ⟨r, h⟩ : ∃ r, f_X1_hour σ k0 = r := ⟨_, rfl⟩
  rw [h]
  unfold f_X1_hour at h
  refine r_start (ws := wsX1_hour) (d := 0) (by decide) rfl [.ref (ad G k0)] (Nat.le_of_ble_eq_true rfl) ?_
  intro p e s m below meth c S hr hlocks hE hw ls hl
  have hl : lv_has ls 1 [(0, .ref (ad G k0))] := hl
  obtain ⟨hx, hb, hml, hown, hts⟩ := id S
  refine lv_aload_n hx hb dX1_hour_0 rfl (lv_at hl 0 rfl) ?_
  refine r_gi S hE hw 2 iw1_X1_hour hk0 rfl (by decide) (hts _ mf18_X1_hour) dX1_hour_1 ?_
  refine lv_bipush (v := 24) hx hb dX1_hour_4 (by decide) ?_
  refine lv_irem hx hb dX1_hour_6 (by decide) ?_
  subst h
  exact r_iret S hr hlocks hw dX1_hour_7


theorem mf24_X1_liftLessWeight : Cond.fieldLink RX1 24 "GasVoyages$Balloon" "gas" "I" ∈ wsX1_liftLessWeight := by decide +kernel
set_option maxRecDepth 20000 in
theorem iw1_X1_liftLessWeight : ∀ w ∈ u_ws RX1 TX1 8, w ∈ wsX1_liftLessWeight := by decide +kernel
theorem mf37_X1_liftLessWeight : Cond.fieldLink RX1 37 "GasVoyages$Air" "density" "[I" ∈ wsX1_liftLessWeight := by decide +kernel
set_option maxRecDepth 20000 in
theorem iw0_X1_liftLessWeight : ∀ w ∈ u_ws RX0 TX0 5, w ∈ wsX1_liftLessWeight := by decide +kernel
theorem mf15_X1_liftLessWeight : Cond.fieldLink RX1 15 "GasVoyages$Balloon" "level" "I" ∈ wsX1_liftLessWeight := by decide +kernel
theorem mf43_X1_liftLessWeight : Cond.fieldLink RX1 43 "GasVoyages$Air" "warmth" "[I" ∈ wsX1_liftLessWeight := by decide +kernel
theorem mf21_X1_liftLessWeight : Cond.fieldLink RX1 21 "GasVoyages$Balloon" "load" "I" ∈ wsX1_liftLessWeight := by decide +kernel
theorem mf27_X1_liftLessWeight : Cond.fieldLink RX1 27 "GasVoyages$Balloon" "ballast" "I" ∈ wsX1_liftLessWeight := by decide +kernel
def f_X1_liftLessWeight (σ : St) (k0 : Nat) : Option Int32 := Option.bind (aL σ 4 8 (σ.1 k0 1)) fun v1 => Option.bind (aL σ 6 24 (f_X1_hour σ k0)) fun v2 => some (((σ.1 k0 4) * (v1 + v2)) - (10 * ((σ.1 k0 3) + (σ.1 k0 5))))
set_option maxRecDepth 100000 in
set_option maxHeartbeats 4000000 in
theorem c_X1_liftLessWeight (l : Launch) (G : Gp) (A : Nat → Prop) (σ : St) (k0 : Nat) (hk0 : kd k0 = 1) {r : Int32} (h : f_X1_liftLessWeight σ k0 = some r) : Ki l yX1_liftLessWeight wsX1_liftLessWeight 1 G A [.ref (ad G k0), .ref (ad G 3)] σ r σ := by
  unfold f_X1_liftLessWeight at h
  refine r_start (ws := wsX1_liftLessWeight) (d := 1) (by decide) rfl [.ref (ad G k0), .ref (ad G 3)] (Nat.le_of_ble_eq_true rfl) ?_
  intro p e s m below meth c S hr hlocks hE hw ls hl
  have hl : lv_has ls 2 [(0, .ref (ad G k0)), (1, .ref (ad G 3))] := hl
  obtain ⟨hx, hb, hml, hown, hts⟩ := id S
  refine lv_aload_n hx hb dX1_liftLessWeight_0 rfl (lv_at hl 0 rfl) ?_
  refine r_gi S hE hw 4 iw1_X1_liftLessWeight hk0 rfl (by decide) (hts _ mf24_X1_liftLessWeight) dX1_liftLessWeight_1 ?_
  refine lv_aload_n hx hb dX1_liftLessWeight_4 rfl (lv_at hl 1 rfl) ?_
  refine r_gr S hE hw 0 4 iw0_X1_liftLessWeight rfl rfl (by decide) rfl (hts _ mf37_X1_liftLessWeight) dX1_liftLessWeight_5 ?_
  refine lv_aload_n hx hb dX1_liftLessWeight_8 rfl (lv_at hl 0 rfl) ?_
  refine r_gi S hE hw 1 iw1_X1_liftLessWeight hk0 rfl (by decide) (hts _ mf15_X1_liftLessWeight) dX1_liftLessWeight_9 ?_
  obtain ⟨v1, gv1, h⟩ := oB_out h
  refine r_al S hE hw rfl rfl gv1 dX1_liftLessWeight_12 ?_
  refine lv_aload_n hx hb dX1_liftLessWeight_13 rfl (lv_at hl 1 rfl) ?_
  refine r_gr S hE hw 2 6 iw0_X1_liftLessWeight rfl rfl (by decide) rfl (hts _ mf43_X1_liftLessWeight) dX1_liftLessWeight_14 ?_
  refine lv_aload_n hx hb dX1_liftLessWeight_17 rfl (lv_at hl 0 rfl) ?_
  refine r_ci (r_runV (k := k0) (ci := 1) (As := []) (rest := [.ref (ad G 6), .int v1, .int (σ.1 k0 4)]) S hE hw (c_X1_hour  l G A σ k0 hk0) (cwV 0 hts gX1_liftLessWeight_X1_hour rfl rfl rfl (by decide +kernel) ⟨Nat.le_of_ble_eq_true rfl, Nat.le_of_ble_eq_true rfl⟩) hk0 rfl (by decide) rfl hl.1 rfl (Nat.le_of_ble_eq_true rfl) ⟨Nat.zero_le _, Nat.zero_le _⟩ dX1_liftLessWeight_18) hw (fun H locs hw => ?_)
  obtain ⟨v2, gv2, h⟩ := oB_out h
  refine r_al S hE hw rfl rfl gv2 dX1_liftLessWeight_21 ?_
  refine lv_iadd hx hb dX1_liftLessWeight_22 ?_
  refine lv_imul hx hb dX1_liftLessWeight_23 ?_
  refine lv_bipush (v := 10) hx hb dX1_liftLessWeight_24 (by decide) ?_
  refine lv_aload_n hx hb dX1_liftLessWeight_26 rfl (lv_at hl 0 rfl) ?_
  refine r_gi S hE hw 3 iw1_X1_liftLessWeight hk0 rfl (by decide) (hts _ mf21_X1_liftLessWeight) dX1_liftLessWeight_27 ?_
  refine lv_aload_n hx hb dX1_liftLessWeight_30 rfl (lv_at hl 0 rfl) ?_
  refine r_gi S hE hw 5 iw1_X1_liftLessWeight hk0 rfl (by decide) (hts _ mf27_X1_liftLessWeight) dX1_liftLessWeight_31 ?_
  refine lv_iadd hx hb dX1_liftLessWeight_34 ?_
  refine lv_imul hx hb dX1_liftLessWeight_35 ?_
  refine lv_isub hx hb dX1_liftLessWeight_36 ?_
  obtain rfl := Option.some.inj h
  exact r_iret S hr hlocks hw dX1_liftLessWeight_37


theorem mf24_X1_spend : Cond.fieldLink RX1 24 "GasVoyages$Balloon" "gas" "I" ∈ wsX1_spend := by decide +kernel
set_option maxRecDepth 20000 in
theorem iw1_X1_spend : ∀ w ∈ u_ws RX1 TX1 8, w ∈ wsX1_spend := by decide +kernel
theorem ml74_X1_spend : Cond.methodLink RX1 74 Lib.Math.min.name ∈ wsX1_spend := by decide +kernel
theorem msmin_X1_spend : Cond.static Lib.Math.min.name ∈ wsX1_spend := by decide +kernel
theorem miM_X1_spend : Cond.initialized "java/lang/Math" ∈ wsX1_spend := by decide +kernel
theorem mkmin_X1_spend : Cond.code Lib.Math.min.name Lib.Math.min.code 2 (some .int) ∈ wsX1_spend := by decide +kernel
theorem mf27_X1_spend : Cond.fieldLink RX1 27 "GasVoyages$Balloon" "ballast" "I" ∈ wsX1_spend := by decide +kernel
def f_X1_spend (σ : St) (k0 : Nat) (p1 : Int32) (p2 : Int32) : St := if p1 = 1 then (bT (up σ k0 5 ((σ.1 k0 5) - (if (σ.1 k0 5) < p2 then (σ.1 k0 5) else p2))) fun s4 => s4) else (if p1 = 2 then (bT (up σ k0 4 ((σ.1 k0 4) - (if (σ.1 k0 4) < p2 then (σ.1 k0 4) else p2))) fun s3 => s3) else (σ))
set_option maxRecDepth 100000 in
set_option maxHeartbeats 4000000 in
theorem c_X1_spend (l : Launch) (G : Gp) (A : Nat → Prop) (σ : St) (k0 : Nat) (p1 : Int32) (p2 : Int32) (hk0 : kd k0 = 1) {σ' : St} (h : f_X1_spend σ k0 p1 p2 = σ') : Kv l yX1_spend wsX1_spend 1 G A [.ref (ad G k0), .int p1, .int p2] σ σ' := by
  unfold f_X1_spend at h
  refine r_start (ws := wsX1_spend) (d := 1) (by decide) rfl [.ref (ad G k0), .int p1, .int p2] (Nat.le_of_ble_eq_true rfl) ?_
  intro p e s m below meth c S hr hlocks hE hw ls hl
  have hl : lv_has ls 3 [(0, .ref (ad G k0)), (1, .int p1), (2, .int p2)] := hl
  obtain ⟨hx, hb, hml, hown, hts⟩ := id S
  refine lv_iload_n hx hb dX1_spend_0 rfl (lv_at hl 1 rfl) ?_
  refine lv_iconst (v := 1) hx hb dX1_spend_1 (by decide) ?_
  refine lv_icmp_ne (tgt := 25) hx hb dX1_spend_2 (by decide) (fun c1 => ?_) (fun c1 => ?_)
  · have h := if_f c1 h
    refine lv_iload_n hx hb dX1_spend_25 rfl (lv_at hl 1 rfl) ?_
    refine lv_iconst (v := 2) hx hb dX1_spend_26 (by decide) ?_
    refine lv_icmp_ne (tgt := 47) hx hb dX1_spend_27 (by decide) (fun c2 => ?_) (fun c2 => ?_)
    · have h := if_f c2 h
      subst h
      exact r_vret S hr hlocks hw dX1_spend_47
    · have h := if_t c2 h
      refine lv_aload_n hx hb dX1_spend_30 rfl (lv_at hl 0 rfl) ?_
      refine lv_dup hx hb dX1_spend_31 rfl ?_
      refine r_gi S hE hw 4 iw1_X1_spend hk0 rfl (by decide) (hts _ mf24_X1_spend) dX1_spend_32 ?_
      refine lv_iload_n hx hb dX1_spend_35 rfl (lv_at hl 2 rfl) ?_
      refine lv_aload_n hx hb dX1_spend_36 rfl (lv_at hl 0 rfl) ?_
      refine r_gi S hE hw 4 iw1_X1_spend hk0 rfl (by decide) (hts _ mf24_X1_spend) dX1_spend_37 ?_
      refine va_mmin hx hb (hml.trans hl.1.symm) hown (hts _ ml74_X1_spend) (hts _ msmin_X1_spend) (hts _ miM_X1_spend) (hts _ mkmin_X1_spend) (Nat.le_of_ble_eq_true rfl) (Nat.le_of_ble_eq_true rfl) (Nat.zero_le _) (Nat.zero_le _) dX1_spend_40 ?_
      refine lv_isub hx hb dX1_spend_43 ?_
      obtain ⟨s3, gs3, h⟩ := bT_out h
      refine r_pi S hE hw 4 ((σ.1 k0 4) - (if (σ.1 k0 4) < p2 then (σ.1 k0 4) else p2)) iw1_X1_spend tyX1 tyX1_ok nmX1 hk0 rfl (by decide) (hts _ mf24_X1_spend) rfl (ty := .int) (by decide +kernel) rfl rfl dX1_spend_44 (fun H locs hw => ?_)
      rw [← gs3] at hw
      subst h
      exact r_vret S hr hlocks hw dX1_spend_47
  · have h := if_t c1 h
    refine lv_aload_n hx hb dX1_spend_5 rfl (lv_at hl 0 rfl) ?_
    refine lv_dup hx hb dX1_spend_6 rfl ?_
    refine r_gi S hE hw 5 iw1_X1_spend hk0 rfl (by decide) (hts _ mf27_X1_spend) dX1_spend_7 ?_
    refine lv_iload_n hx hb dX1_spend_10 rfl (lv_at hl 2 rfl) ?_
    refine lv_aload_n hx hb dX1_spend_11 rfl (lv_at hl 0 rfl) ?_
    refine r_gi S hE hw 5 iw1_X1_spend hk0 rfl (by decide) (hts _ mf27_X1_spend) dX1_spend_12 ?_
    refine va_mmin hx hb (hml.trans hl.1.symm) hown (hts _ ml74_X1_spend) (hts _ msmin_X1_spend) (hts _ miM_X1_spend) (hts _ mkmin_X1_spend) (Nat.le_of_ble_eq_true rfl) (Nat.le_of_ble_eq_true rfl) (Nat.zero_le _) (Nat.zero_le _) dX1_spend_15 ?_
    refine lv_isub hx hb dX1_spend_18 ?_
    obtain ⟨s4, gs4, h⟩ := bT_out h
    refine r_pi S hE hw 5 ((σ.1 k0 5) - (if (σ.1 k0 5) < p2 then (σ.1 k0 5) else p2)) iw1_X1_spend tyX1 tyX1_ok nmX1 hk0 rfl (by decide) (hts _ mf27_X1_spend) rfl (ty := .int) (by decide +kernel) rfl rfl dX1_spend_19 (fun H locs hw => ?_)
    rw [← gs4] at hw
    refine lv_goto (tgt := 47) hx hb dX1_spend_22 (by decide) ?_
    subst h
    exact r_vret S hr hlocks hw dX1_spend_47


theorem mf15_X1_climb : Cond.fieldLink RX1 15 "GasVoyages$Balloon" "level" "I" ∈ wsX1_climb := by decide +kernel
set_option maxRecDepth 20000 in
theorem iw1_X1_climb : ∀ w ∈ u_ws RX1 TX1 8, w ∈ wsX1_climb := by decide +kernel
theorem ml80_X1_climb : Cond.methodLink RX1 80 Lib.Math.max.name ∈ wsX1_climb := by decide +kernel
theorem msmax_X1_climb : Cond.static Lib.Math.max.name ∈ wsX1_climb := by decide +kernel
theorem miM_X1_climb : Cond.initialized "java/lang/Math" ∈ wsX1_climb := by decide +kernel
theorem mkmax_X1_climb : Cond.code Lib.Math.max.name Lib.Math.max.code 2 (some .int) ∈ wsX1_climb := by decide +kernel
theorem ml74_X1_climb : Cond.methodLink RX1 74 Lib.Math.min.name ∈ wsX1_climb := by decide +kernel
theorem msmin_X1_climb : Cond.static Lib.Math.min.name ∈ wsX1_climb := by decide +kernel
theorem mkmin_X1_climb : Cond.code Lib.Math.min.name Lib.Math.min.code 2 (some .int) ∈ wsX1_climb := by decide +kernel
def f_X1_climb (σ : St) (k0 : Nat) (p1 : Int32) : St := if p1 ≤ 0 then (if 0 ≤ p1 then (σ) else (bT (up σ k0 1 (if ((σ.1 k0 1) - 1) < 0 then 0 else ((σ.1 k0 1) - 1))) fun s3 => s3)) else (bT (up σ k0 1 (if 7 < ((σ.1 k0 1) + 1) then 7 else ((σ.1 k0 1) + 1))) fun s4 => s4)
set_option maxRecDepth 100000 in
set_option maxHeartbeats 4000000 in
theorem c_X1_climb (l : Launch) (G : Gp) (A : Nat → Prop) (σ : St) (k0 : Nat) (p1 : Int32) (hk0 : kd k0 = 1) {σ' : St} (h : f_X1_climb σ k0 p1 = σ') : Kv l yX1_climb wsX1_climb 1 G A [.ref (ad G k0), .int p1] σ σ' := by
  unfold f_X1_climb at h
  refine r_start (ws := wsX1_climb) (d := 1) (by decide) rfl [.ref (ad G k0), .int p1] (Nat.le_of_ble_eq_true rfl) ?_
  intro p e s m below meth c S hr hlocks hE hw ls hl
  have hl : lv_has ls 2 [(0, .ref (ad G k0)), (1, .int p1)] := hl
  obtain ⟨hx, hb, hml, hown, hts⟩ := id S
  refine lv_iload_n hx hb dX1_climb_0 rfl (lv_at hl 1 rfl) ?_
  refine lv_if_le (tgt := 22) hx hb dX1_climb_1 (by decide) (fun c1 => ?_) (fun c1 => ?_)
  · have h := if_t c1 h
    refine lv_iload_n hx hb dX1_climb_22 rfl (lv_at hl 1 rfl) ?_
    refine lv_if_ge (tgt := 40) hx hb dX1_climb_23 (by decide) (fun c2 => ?_) (fun c2 => ?_)
    · have h := if_t c2 h
      subst h
      exact r_vret S hr hlocks hw dX1_climb_40
    · have h := if_f c2 h
      refine lv_aload_n hx hb dX1_climb_26 rfl (lv_at hl 0 rfl) ?_
      refine lv_aload_n hx hb dX1_climb_27 rfl (lv_at hl 0 rfl) ?_
      refine r_gi S hE hw 1 iw1_X1_climb hk0 rfl (by decide) (hts _ mf15_X1_climb) dX1_climb_28 ?_
      refine lv_iconst (v := 1) hx hb dX1_climb_31 (by decide) ?_
      refine lv_isub hx hb dX1_climb_32 ?_
      refine lv_iconst (v := 0) hx hb dX1_climb_33 (by decide) ?_
      refine va_mmax hx hb (hml.trans hl.1.symm) hown (hts _ ml80_X1_climb) (hts _ msmax_X1_climb) (hts _ miM_X1_climb) (hts _ mkmax_X1_climb) (Nat.le_of_ble_eq_true rfl) (Nat.le_of_ble_eq_true rfl) (Nat.zero_le _) (Nat.zero_le _) dX1_climb_34 ?_
      obtain ⟨s3, gs3, h⟩ := bT_out h
      refine r_pi S hE hw 1 (if ((σ.1 k0 1) - 1) < 0 then 0 else ((σ.1 k0 1) - 1)) iw1_X1_climb tyX1 tyX1_ok nmX1 hk0 rfl (by decide) (hts _ mf15_X1_climb) rfl (ty := .int) (by decide +kernel) rfl rfl dX1_climb_37 (fun H locs hw => ?_)
      rw [← gs3] at hw
      subst h
      exact r_vret S hr hlocks hw dX1_climb_40
  · have h := if_f c1 h
    refine lv_aload_n hx hb dX1_climb_4 rfl (lv_at hl 0 rfl) ?_
    refine lv_aload_n hx hb dX1_climb_5 rfl (lv_at hl 0 rfl) ?_
    refine r_gi S hE hw 1 iw1_X1_climb hk0 rfl (by decide) (hts _ mf15_X1_climb) dX1_climb_6 ?_
    refine lv_iconst (v := 1) hx hb dX1_climb_9 (by decide) ?_
    refine lv_iadd hx hb dX1_climb_10 ?_
    refine lv_bipush (v := 7) hx hb dX1_climb_11 (by decide) ?_
    refine va_mmin hx hb (hml.trans hl.1.symm) hown (hts _ ml74_X1_climb) (hts _ msmin_X1_climb) (hts _ miM_X1_climb) (hts _ mkmin_X1_climb) (Nat.le_of_ble_eq_true rfl) (Nat.le_of_ble_eq_true rfl) (Nat.zero_le _) (Nat.zero_le _) dX1_climb_13 ?_
    obtain ⟨s4, gs4, h⟩ := bT_out h
    refine r_pi S hE hw 1 (if 7 < ((σ.1 k0 1) + 1) then 7 else ((σ.1 k0 1) + 1)) iw1_X1_climb tyX1 tyX1_ok nmX1 hk0 rfl (by decide) (hts _ mf15_X1_climb) rfl (ty := .int) (by decide +kernel) rfl rfl dX1_climb_16 (fun H locs hw => ?_)
    rw [← gs4] at hw
    refine lv_goto (tgt := 40) hx hb dX1_climb_19 (by decide) ?_
    subst h
    exact r_vret S hr hlocks hw dX1_climb_40


theorem mf24_X1_ventAbove : Cond.fieldLink RX1 24 "GasVoyages$Balloon" "gas" "I" ∈ wsX1_ventAbove := by decide +kernel
set_option maxRecDepth 20000 in
theorem iw1_X1_ventAbove : ∀ w ∈ u_ws RX1 TX1 8, w ∈ wsX1_ventAbove := by decide +kernel
theorem mf30_X1_ventAbove : Cond.fieldLink RX1 30 "GasVoyages$Balloon" "vented" "I" ∈ wsX1_ventAbove := by decide +kernel
def f_X1_ventAbove (σ : St) (k0 : Nat) (p1 : Int32) : St := if (σ.1 k0 4) ≤ p1 then (σ) else (bT (up σ k0 6 ((σ.1 k0 6) + ((σ.1 k0 4) - p1))) fun s2 => bT (up s2 k0 4 p1) fun s3 => s3)
set_option maxRecDepth 100000 in
set_option maxHeartbeats 4000000 in
theorem c_X1_ventAbove (l : Launch) (G : Gp) (A : Nat → Prop) (σ : St) (k0 : Nat) (p1 : Int32) (hk0 : kd k0 = 1) {σ' : St} (h : f_X1_ventAbove σ k0 p1 = σ') : Kv l yX1_ventAbove wsX1_ventAbove 0 G A [.ref (ad G k0), .int p1] σ σ' := by
  unfold f_X1_ventAbove at h
  refine r_start (ws := wsX1_ventAbove) (d := 0) (by decide) rfl [.ref (ad G k0), .int p1] (Nat.le_of_ble_eq_true rfl) ?_
  intro p e s m below meth c S hr hlocks hE hw ls hl
  have hl : lv_has ls 2 [(0, .ref (ad G k0)), (1, .int p1)] := hl
  obtain ⟨hx, hb, hml, hown, hts⟩ := id S
  refine lv_aload_n hx hb dX1_ventAbove_0 rfl (lv_at hl 0 rfl) ?_
  refine r_gi S hE hw 4 iw1_X1_ventAbove hk0 rfl (by decide) (hts _ mf24_X1_ventAbove) dX1_ventAbove_1 ?_
  refine lv_iload_n hx hb dX1_ventAbove_4 rfl (lv_at hl 1 rfl) ?_
  refine lv_icmp_le (tgt := 28) hx hb dX1_ventAbove_5 (by decide) (fun c1 => ?_) (fun c1 => ?_)
  · have h := if_t c1 h
    subst h
    exact r_vret S hr hlocks hw dX1_ventAbove_28
  · have h := if_f c1 h
    refine lv_aload_n hx hb dX1_ventAbove_8 rfl (lv_at hl 0 rfl) ?_
    refine lv_dup hx hb dX1_ventAbove_9 rfl ?_
    refine r_gi S hE hw 6 iw1_X1_ventAbove hk0 rfl (by decide) (hts _ mf30_X1_ventAbove) dX1_ventAbove_10 ?_
    refine lv_aload_n hx hb dX1_ventAbove_13 rfl (lv_at hl 0 rfl) ?_
    refine r_gi S hE hw 4 iw1_X1_ventAbove hk0 rfl (by decide) (hts _ mf24_X1_ventAbove) dX1_ventAbove_14 ?_
    refine lv_iload_n hx hb dX1_ventAbove_17 rfl (lv_at hl 1 rfl) ?_
    refine lv_isub hx hb dX1_ventAbove_18 ?_
    refine lv_iadd hx hb dX1_ventAbove_19 ?_
    obtain ⟨s2, gs2, h⟩ := bT_out h
    refine r_pi S hE hw 6 ((σ.1 k0 6) + ((σ.1 k0 4) - p1)) iw1_X1_ventAbove tyX1 tyX1_ok nmX1 hk0 rfl (by decide) (hts _ mf30_X1_ventAbove) rfl (ty := .int) (by decide +kernel) rfl rfl dX1_ventAbove_20 (fun H locs hw => ?_)
    rw [← gs2] at hw
    refine lv_aload_n hx hb dX1_ventAbove_23 rfl (lv_at hl 0 rfl) ?_
    refine lv_iload_n hx hb dX1_ventAbove_24 rfl (lv_at hl 1 rfl) ?_
    obtain ⟨s3, gs3, h⟩ := bT_out h
    refine r_pi S hE hw 4 p1 iw1_X1_ventAbove tyX1 tyX1_ok nmX1 hk0 rfl (by decide) (hts _ mf24_X1_ventAbove) rfl (ty := .int) (by decide +kernel) rfl rfl dX1_ventAbove_25 (fun H locs hw => ?_)
    rw [← gs3] at hw
    subst h
    exact r_vret S hr hlocks hw dX1_ventAbove_28


def f_X9_xOf (p0 : Int32) : Int32 := p0 - p0 / 24 * 24
set_option maxRecDepth 100000 in
set_option maxHeartbeats 4000000 in
theorem c_X9_xOf (l : Launch) (G : Gp) (A : Nat → Prop) (σ : St) (p0 : Int32) : Ki l yX9_xOf wsX9_xOf 0 G A [.int p0] σ (f_X9_xOf p0) σ := by
  obtain ⟨r, h⟩ : ∃ r, f_X9_xOf p0 = r := ⟨_, rfl⟩
  rw [h]
  unfold f_X9_xOf at h
  refine r_start (ws := wsX9_xOf) (d := 0) (by decide) rfl [.int p0] (Nat.le_of_ble_eq_true rfl) ?_
  intro p e s m below meth c S hr hlocks hE hw ls hl
  have hl : lv_has ls 1 [(0, .int p0)] := hl
  obtain ⟨hx, hb, hml, hown, hts⟩ := id S
  refine lv_iload_n hx hb dX9_xOf_0 rfl (lv_at hl 0 rfl) ?_
  refine lv_bipush (v := 24) hx hb dX9_xOf_1 (by decide) ?_
  refine lv_irem hx hb dX9_xOf_3 (by decide) ?_
  subst h
  exact r_iret S hr hlocks hw dX9_xOf_4


def f_X9_yOf (p0 : Int32) : Int32 := p0 / 24
set_option maxRecDepth 100000 in
set_option maxHeartbeats 4000000 in
theorem c_X9_yOf (l : Launch) (G : Gp) (A : Nat → Prop) (σ : St) (p0 : Int32) : Ki l yX9_yOf wsX9_yOf 0 G A [.int p0] σ (f_X9_yOf p0) σ := by
  obtain ⟨r, h⟩ : ∃ r, f_X9_yOf p0 = r := ⟨_, rfl⟩
  rw [h]
  unfold f_X9_yOf at h
  refine r_start (ws := wsX9_yOf) (d := 0) (by decide) rfl [.int p0] (Nat.le_of_ble_eq_true rfl) ?_
  intro p e s m below meth c S hr hlocks hE hw ls hl
  have hl : lv_has ls 1 [(0, .int p0)] := hl
  obtain ⟨hx, hb, hml, hown, hts⟩ := id S
  refine lv_iload_n hx hb dX9_yOf_0 rfl (lv_at hl 0 rfl) ?_
  refine lv_bipush (v := 24) hx hb dX9_yOf_1 (by decide) ?_
  refine lv_idiv hx hb dX9_yOf_3 (by decide) ?_
  subst h
  exact r_iret S hr hlocks hw dX9_yOf_4


def f_X9_within (p0 : Int32) (p1 : Int32) (p2 : Int32) : Int32 := if p0 < p1 then (0) else (if p2 < p0 then (0) else (1))
set_option maxRecDepth 100000 in
set_option maxHeartbeats 4000000 in
theorem c_X9_within (l : Launch) (G : Gp) (A : Nat → Prop) (σ : St) (p0 : Int32) (p1 : Int32) (p2 : Int32) : Kz l yX9_within wsX9_within 0 G A [.int p0, .int p1, .int p2] σ (f_X9_within p0 p1 p2) σ := by
  obtain ⟨r, h⟩ : ∃ r, f_X9_within p0 p1 p2 = r := ⟨_, rfl⟩
  rw [h]
  unfold f_X9_within at h
  refine r_start (ws := wsX9_within) (d := 0) (by decide) rfl [.int p0, .int p1, .int p2] (Nat.le_of_ble_eq_true rfl) ?_
  intro p e s m below meth c S hr hlocks hE hw ls hl
  have hl : lv_has ls 3 [(0, .int p0), (1, .int p1), (2, .int p2)] := hl
  obtain ⟨hx, hb, hml, hown, hts⟩ := id S
  refine lv_iload_n hx hb dX9_within_0 rfl (lv_at hl 0 rfl) ?_
  refine lv_iload_n hx hb dX9_within_1 rfl (lv_at hl 1 rfl) ?_
  refine lv_icmp_lt (tgt := 14) hx hb dX9_within_2 (by decide) (fun c1 => ?_) (fun c1 => ?_)
  · have h := if_t c1 h
    refine lv_iconst (v := 0) hx hb dX9_within_14 (by decide) ?_
    subst h
    exact r_zret S hr hlocks hw (Or.inl rfl) dX9_within_15
  · have h := if_f c1 h
    refine lv_iload_n hx hb dX9_within_5 rfl (lv_at hl 0 rfl) ?_
    refine lv_iload_n hx hb dX9_within_6 rfl (lv_at hl 2 rfl) ?_
    refine lv_icmp_gt (tgt := 14) hx hb dX9_within_7 (by decide) (fun c2 => ?_) (fun c2 => ?_)
    · have h := if_t c2 h
      refine lv_iconst (v := 0) hx hb dX9_within_14 (by decide) ?_
      subst h
      exact r_zret S hr hlocks hw (Or.inl rfl) dX9_within_15
    · have h := if_f c2 h
      refine lv_iconst (v := 1) hx hb dX9_within_10 (by decide) ?_
      refine lv_goto (tgt := 15) hx hb dX9_within_11 (by decide) ?_
      subst h
      exact r_zret S hr hlocks hw (Or.inr rfl) dX9_within_15


theorem mf9_X5_has : Cond.fieldLink RX5 9 "GasVoyages$Land" "w" "I" ∈ wsX5_has := by decide +kernel
set_option maxRecDepth 20000 in
theorem iw5_X5_has : ∀ w ∈ u_ws RX5 TX5 3, w ∈ wsX5_has := by decide +kernel
theorem mi9_X5_has : Cond.initialized RX9 ∈ wsX5_has := by decide +kernel
theorem mtX9_within_X5_has : Cond.static yX9_within ∈ wsX5_has := by decide +kernel
theorem mf15_X5_has : Cond.fieldLink RX5 15 "GasVoyages$Land" "h" "I" ∈ wsX5_has := by decide +kernel
def f_X5_has (σ : St) (p1 : Int32) (p2 : Int32) : Int32 := if (f_X9_within p1 0 ((σ.1 1 0) - 1)) = 0 then (0) else (if (f_X9_within p2 0 ((σ.1 1 1) - 1)) = 0 then (0) else (1))
set_option maxRecDepth 100000 in
set_option maxHeartbeats 4000000 in
theorem c_X5_has (l : Launch) (G : Gp) (A : Nat → Prop) (σ : St) (p1 : Int32) (p2 : Int32) : Kz l yX5_has wsX5_has 1 G A [.ref (ad G 1), .int p1, .int p2] σ (f_X5_has σ p1 p2) σ := by
  obtain ⟨r, h⟩ : ∃ r, f_X5_has σ p1 p2 = r := ⟨_, rfl⟩
  rw [h]
  unfold f_X5_has at h
  refine r_start (ws := wsX5_has) (d := 1) (by decide) rfl [.ref (ad G 1), .int p1, .int p2] (Nat.le_of_ble_eq_true rfl) ?_
  intro p e s m below meth c S hr hlocks hE hw ls hl
  have hl : lv_has ls 3 [(0, .ref (ad G 1)), (1, .int p1), (2, .int p2)] := hl
  obtain ⟨hx, hb, hml, hown, hts⟩ := id S
  refine lv_iload_n hx hb dX5_has_0 rfl (lv_at hl 1 rfl) ?_
  refine lv_iconst (v := 0) hx hb dX5_has_1 (by decide) ?_
  refine lv_aload_n hx hb dX5_has_2 rfl (lv_at hl 0 rfl) ?_
  refine r_gi S hE hw 0 iw5_X5_has rfl rfl (by decide) (hts _ mf9_X5_has) dX5_has_3 ?_
  refine lv_iconst (v := 1) hx hb dX5_has_6 (by decide) ?_
  refine lv_isub hx hb dX5_has_7 ?_
  refine r_cz (r_runN (As := [.int p1, .int 0, .int ((σ.1 1 0) - 1)]) (rest := []) S hE hw (c_X9_within  l G A σ p1 0 ((σ.1 1 0) - 1)) (va_cnB 3 hts gX5_has_X9_within_n28 rfl rfl rfl (hE.2.2.1 (RX5, 28, yX9_within) (by decide +kernel)) (hts _ mi9_X5_has) (by decide +kernel) ⟨Nat.le_of_ble_eq_true rfl, Nat.le_of_ble_eq_true rfl⟩) (hts _ mtX9_within_X5_has) rfl hl.1 rfl (Nat.le_of_ble_eq_true rfl) ⟨Nat.zero_le _, Nat.zero_le _⟩ dX5_has_8) hw (fun H locs hw hb1 => ?_)
  refine lv_if_eq (tgt := 32) hx hb dX5_has_11 (by decide) (fun c2 => ?_) (fun c2 => ?_)
  · have h := if_t c2 h
    refine lv_iconst (v := 0) hx hb dX5_has_32 (by decide) ?_
    subst h
    exact r_zret S hr hlocks hw (Or.inl rfl) dX5_has_33
  · have h := if_f c2 h
    refine lv_iload_n hx hb dX5_has_14 rfl (lv_at hl 2 rfl) ?_
    refine lv_iconst (v := 0) hx hb dX5_has_15 (by decide) ?_
    refine lv_aload_n hx hb dX5_has_16 rfl (lv_at hl 0 rfl) ?_
    refine r_gi S hE hw 1 iw5_X5_has rfl rfl (by decide) (hts _ mf15_X5_has) dX5_has_17 ?_
    refine lv_iconst (v := 1) hx hb dX5_has_20 (by decide) ?_
    refine lv_isub hx hb dX5_has_21 ?_
    refine r_cz (r_runN (As := [.int p2, .int 0, .int ((σ.1 1 1) - 1)]) (rest := []) S hE hw (c_X9_within  l G A σ p2 0 ((σ.1 1 1) - 1)) (va_cnB 3 hts gX5_has_X9_within_n28 rfl rfl rfl (hE.2.2.1 (RX5, 28, yX9_within) (by decide +kernel)) (hts _ mi9_X5_has) (by decide +kernel) ⟨Nat.le_of_ble_eq_true rfl, Nat.le_of_ble_eq_true rfl⟩) (hts _ mtX9_within_X5_has) rfl hl.1 rfl (Nat.le_of_ble_eq_true rfl) ⟨Nat.zero_le _, Nat.zero_le _⟩ dX5_has_22) hw (fun H locs hw hb3 => ?_)
    refine lv_if_eq (tgt := 32) hx hb dX5_has_25 (by decide) (fun c4 => ?_) (fun c4 => ?_)
    · have h := if_t c4 h
      refine lv_iconst (v := 0) hx hb dX5_has_32 (by decide) ?_
      subst h
      exact r_zret S hr hlocks hw (Or.inl rfl) dX5_has_33
    · have h := if_f c4 h
      refine lv_iconst (v := 1) hx hb dX5_has_28 (by decide) ?_
      refine lv_goto (tgt := 33) hx hb dX5_has_29 (by decide) ?_
      subst h
      exact r_zret S hr hlocks hw (Or.inr rfl) dX5_has_33


def f_X9_cellOf (p0 : Int32) (p1 : Int32) : Int32 := (p1 * 24) + p0
set_option maxRecDepth 100000 in
set_option maxHeartbeats 4000000 in
theorem c_X9_cellOf (l : Launch) (G : Gp) (A : Nat → Prop) (σ : St) (p0 : Int32) (p1 : Int32) : Ki l yX9_cellOf wsX9_cellOf 0 G A [.int p0, .int p1] σ (f_X9_cellOf p0 p1) σ := by
  obtain ⟨r, h⟩ : ∃ r, f_X9_cellOf p0 p1 = r := ⟨_, rfl⟩
  rw [h]
  unfold f_X9_cellOf at h
  refine r_start (ws := wsX9_cellOf) (d := 0) (by decide) rfl [.int p0, .int p1] (Nat.le_of_ble_eq_true rfl) ?_
  intro p e s m below meth c S hr hlocks hE hw ls hl
  have hl : lv_has ls 2 [(0, .int p0), (1, .int p1)] := hl
  obtain ⟨hx, hb, hml, hown, hts⟩ := id S
  refine lv_iload_n hx hb dX9_cellOf_0 rfl (lv_at hl 1 rfl) ?_
  refine lv_bipush (v := 24) hx hb dX9_cellOf_1 (by decide) ?_
  refine lv_imul hx hb dX9_cellOf_3 ?_
  refine lv_iload_n hx hb dX9_cellOf_4 rfl (lv_at hl 0 rfl) ?_
  refine lv_iadd hx hb dX9_cellOf_5 ?_
  subst h
  exact r_iret S hr hlocks hw dX9_cellOf_6


theorem mi9_X5_movedFrom : Cond.initialized RX9 ∈ wsX5_movedFrom := by decide +kernel
theorem mtX9_xOf_X5_movedFrom : Cond.static yX9_xOf ∈ wsX5_movedFrom := by decide +kernel
theorem mtX9_yOf_X5_movedFrom : Cond.static yX9_yOf ∈ wsX5_movedFrom := by decide +kernel
theorem mtX9_cellOf_X5_movedFrom : Cond.static yX9_cellOf ∈ wsX5_movedFrom := by decide +kernel
def f_X5_movedFrom (σ : St) (p1 : Int32) (p2 : Int32) (p3 : Int32) : Int32 := if (f_X5_has σ ((f_X9_xOf p1) + p2) ((f_X9_yOf p1) + p3)) = 0 then (p1) else (f_X9_cellOf ((f_X9_xOf p1) + p2) ((f_X9_yOf p1) + p3))
set_option maxRecDepth 100000 in
set_option maxHeartbeats 4000000 in
theorem c_X5_movedFrom (l : Launch) (G : Gp) (A : Nat → Prop) (σ : St) (p1 : Int32) (p2 : Int32) (p3 : Int32) : Ki l yX5_movedFrom wsX5_movedFrom 2 G A [.ref (ad G 1), .int p1, .int p2, .int p3] σ (f_X5_movedFrom σ p1 p2 p3) σ := by
  obtain ⟨r, h⟩ : ∃ r, f_X5_movedFrom σ p1 p2 p3 = r := ⟨_, rfl⟩
  rw [h]
  unfold f_X5_movedFrom at h
  refine r_start (ws := wsX5_movedFrom) (d := 2) (by decide) rfl [.ref (ad G 1), .int p1, .int p2, .int p3] (Nat.le_of_ble_eq_true rfl) ?_
  intro p e s m below meth c S hr hlocks hE hw ls hl
  have hl : lv_has ls 6 [(0, .ref (ad G 1)), (1, .int p1), (2, .int p2), (3, .int p3)] := hl
  obtain ⟨hx, hb, hml, hown, hts⟩ := id S
  refine lv_iload_n hx hb dX5_movedFrom_0 rfl (lv_at hl 1 rfl) ?_
  refine r_ci (r_runN (As := [.int p1]) (rest := []) S hE hw (c_X9_xOf  l G A σ p1) (va_cnB 1 hts gX5_movedFrom_X9_xOf_n32 rfl rfl rfl (hE.2.2.1 (RX5, 32, yX9_xOf) (by decide +kernel)) (hts _ mi9_X5_movedFrom) (by decide +kernel) ⟨Nat.le_of_ble_eq_true rfl, Nat.le_of_ble_eq_true rfl⟩) (hts _ mtX9_xOf_X5_movedFrom) rfl hl.1 rfl (Nat.le_of_ble_eq_true rfl) ⟨Nat.zero_le _, Nat.zero_le _⟩ dX5_movedFrom_1) hw (fun H locs hw => ?_)
  refine lv_iload_n hx hb dX5_movedFrom_4 rfl (lv_at hl 2 rfl) ?_
  refine lv_iadd hx hb dX5_movedFrom_5 ?_
  refine lv_istore (lv' := [(4, .int ((f_X9_xOf p1) + p2)), (0, .ref (ad G 1)), (1, .int p1), (2, .int p2), (3, .int p3)]) hx hb dX5_movedFrom_6 hl (by decide) rfl (fun ls hl => ?_)
  refine lv_iload_n hx hb dX5_movedFrom_8 rfl (lv_at hl 2 rfl) ?_
  refine r_ci (r_runN (As := [.int p1]) (rest := []) S hE hw (c_X9_yOf  l G A σ p1) (va_cnB 1 hts gX5_movedFrom_X9_yOf_n36 rfl rfl rfl (hE.2.2.1 (RX5, 36, yX9_yOf) (by decide +kernel)) (hts _ mi9_X5_movedFrom) (by decide +kernel) ⟨Nat.le_of_ble_eq_true rfl, Nat.le_of_ble_eq_true rfl⟩) (hts _ mtX9_yOf_X5_movedFrom) rfl hl.1 rfl (Nat.le_of_ble_eq_true rfl) ⟨Nat.zero_le _, Nat.zero_le _⟩ dX5_movedFrom_9) hw (fun H locs hw => ?_)
  refine lv_iload_n hx hb dX5_movedFrom_12 rfl (lv_at hl 4 rfl) ?_
  refine lv_iadd hx hb dX5_movedFrom_13 ?_
  refine lv_istore (lv' := [(5, .int ((f_X9_yOf p1) + p3)), (4, .int ((f_X9_xOf p1) + p2)), (0, .ref (ad G 1)), (1, .int p1), (2, .int p2), (3, .int p3)]) hx hb dX5_movedFrom_14 hl (by decide) rfl (fun ls hl => ?_)
  refine lv_aload_n hx hb dX5_movedFrom_16 rfl (lv_at hl 2 rfl) ?_
  refine lv_iload hx hb dX5_movedFrom_17 (lv_at hl 1 rfl) ?_
  refine lv_iload hx hb dX5_movedFrom_19 (lv_at hl 0 rfl) ?_
  refine r_cz (r_runV (k := 1) (ci := 5) (As := [.int ((f_X9_xOf p1) + p2), .int ((f_X9_yOf p1) + p3)]) (rest := []) S hE hw (c_X5_has  l G A σ ((f_X9_xOf p1) + p2) ((f_X9_yOf p1) + p3)) (cwV 2 hts gX5_movedFrom_X5_has rfl rfl rfl (by decide +kernel) ⟨Nat.le_of_ble_eq_true rfl, Nat.le_of_ble_eq_true rfl⟩) rfl rfl (by decide) rfl hl.1 rfl (Nat.le_of_ble_eq_true rfl) ⟨Nat.zero_le _, Nat.zero_le _⟩ dX5_movedFrom_21) hw (fun H locs hw hb1 => ?_)
  refine lv_if_eq (tgt := 37) hx hb dX5_movedFrom_24 (by decide) (fun c2 => ?_) (fun c2 => ?_)
  · have h := if_t c2 h
    refine lv_iload_n hx hb dX5_movedFrom_37 rfl (lv_at hl 3 rfl) ?_
    subst h
    exact r_iret S hr hlocks hw dX5_movedFrom_38
  · have h := if_f c2 h
    refine lv_iload hx hb dX5_movedFrom_27 (lv_at hl 1 rfl) ?_
    refine lv_iload hx hb dX5_movedFrom_29 (lv_at hl 0 rfl) ?_
    refine r_ci (r_runN (As := [.int ((f_X9_xOf p1) + p2), .int ((f_X9_yOf p1) + p3)]) (rest := []) S hE hw (c_X9_cellOf  l G A σ ((f_X9_xOf p1) + p2) ((f_X9_yOf p1) + p3)) (va_cnB 2 hts gX5_movedFrom_X9_cellOf_n43 rfl rfl rfl (hE.2.2.1 (RX5, 43, yX9_cellOf) (by decide +kernel)) (hts _ mi9_X5_movedFrom) (by decide +kernel) ⟨Nat.le_of_ble_eq_true rfl, Nat.le_of_ble_eq_true rfl⟩) (hts _ mtX9_cellOf_X5_movedFrom) rfl hl.1 rfl (Nat.le_of_ble_eq_true rfl) ⟨Nat.zero_le _, Nat.zero_le _⟩ dX5_movedFrom_31) hw (fun H locs hw => ?_)
    refine lv_goto (tgt := 38) hx hb dX5_movedFrom_34 (by decide) ?_
    subst h
    exact r_iret S hr hlocks hw dX5_movedFrom_38


theorem mf9_X8_leadFrom : Cond.fieldLink RX8 9 "GasVoyages$Winds" "dx" "[I" ∈ wsX8_leadFrom := by decide +kernel
set_option maxRecDepth 20000 in
theorem iw8_X8_leadFrom : ∀ w ∈ u_ws RX8 TX8 2, w ∈ wsX8_leadFrom := by decide +kernel
theorem mf15_X8_leadFrom : Cond.fieldLink RX8 15 "GasVoyages$Winds" "dy" "[I" ∈ wsX8_leadFrom := by decide +kernel
def f_X8_leadFrom (σ : St) (k0 : Nat) (p1 : Int32) (p2 : Int32) (p3 : Int32) : Option Int32 := Option.bind (aL σ (k0 + 1) 192 ((p2 * 24) + p3)) fun v1 => Option.bind (aL σ (k0 + 2) 192 ((p2 * 24) + p3)) fun v2 => some (f_X5_movedFrom σ p1 v1 v2)
set_option maxRecDepth 100000 in
set_option maxHeartbeats 4000000 in
theorem c_X8_leadFrom (l : Launch) (G : Gp) (A : Nat → Prop) (σ : St) (k0 : Nat) (p1 : Int32) (p2 : Int32) (p3 : Int32) (hk0 : kd k0 = 8) {r : Int32} (h : f_X8_leadFrom σ k0 p1 p2 p3 = some r) : Ki l yX8_leadFrom wsX8_leadFrom 3 G A [.ref (ad G k0), .int p1, .int p2, .int p3, .ref (ad G 1)] σ r σ := by
  unfold f_X8_leadFrom at h
  refine r_start (ws := wsX8_leadFrom) (d := 3) (by decide) rfl [.ref (ad G k0), .int p1, .int p2, .int p3, .ref (ad G 1)] (Nat.le_of_ble_eq_true rfl) ?_
  intro p e s m below meth c S hr hlocks hE hw ls hl
  have hl : lv_has ls 6 [(0, .ref (ad G k0)), (1, .int p1), (2, .int p2), (3, .int p3), (4, .ref (ad G 1))] := hl
  obtain ⟨hx, hb, hml, hown, hts⟩ := id S
  refine lv_iload_n hx hb dX8_leadFrom_0 rfl (lv_at hl 2 rfl) ?_
  refine lv_bipush (v := 24) hx hb dX8_leadFrom_1 (by decide) ?_
  refine lv_imul hx hb dX8_leadFrom_3 ?_
  refine lv_iload_n hx hb dX8_leadFrom_4 rfl (lv_at hl 3 rfl) ?_
  refine lv_iadd hx hb dX8_leadFrom_5 ?_
  refine lv_istore (lv' := [(5, .int ((p2 * 24) + p3)), (0, .ref (ad G k0)), (1, .int p1), (2, .int p2), (3, .int p3), (4, .ref (ad G 1))]) hx hb dX8_leadFrom_6 hl (by decide) rfl (fun ls hl => ?_)
  refine lv_aload hx hb dX8_leadFrom_8 (lv_at hl 5 rfl) ?_
  refine lv_iload_n hx hb dX8_leadFrom_10 rfl (lv_at hl 2 rfl) ?_
  refine lv_aload_n hx hb dX8_leadFrom_11 rfl (lv_at hl 1 rfl) ?_
  refine r_gr S hE hw 0 (k0 + 1) iw8_X8_leadFrom hk0 rfl (by decide) rfl (hts _ mf9_X8_leadFrom) dX8_leadFrom_12 ?_
  refine lv_iload hx hb dX8_leadFrom_15 (lv_at hl 0 rfl) ?_
  obtain ⟨v1, gv1, h⟩ := oB_out h
  refine r_al S hE hw (kw_x hk0) (kw_xl hk0) gv1 dX8_leadFrom_17 ?_
  refine lv_aload_n hx hb dX8_leadFrom_18 rfl (lv_at hl 1 rfl) ?_
  refine r_gr S hE hw 1 (k0 + 2) iw8_X8_leadFrom hk0 rfl (by decide) rfl (hts _ mf15_X8_leadFrom) dX8_leadFrom_19 ?_
  refine lv_iload hx hb dX8_leadFrom_22 (lv_at hl 0 rfl) ?_
  obtain ⟨v2, gv2, h⟩ := oB_out h
  refine r_al S hE hw (kw_y hk0) (kw_yl hk0) gv2 dX8_leadFrom_24 ?_
  refine r_ci (r_runV (k := 1) (ci := 5) (As := [.int p1, .int v1, .int v2]) (rest := []) S hE hw (c_X5_movedFrom  l G A σ p1 v1 v2) (cwV 3 hts gX8_leadFrom_X5_movedFrom rfl rfl rfl (by decide +kernel) ⟨Nat.le_of_ble_eq_true rfl, Nat.le_of_ble_eq_true rfl⟩) rfl rfl (by decide) rfl hl.1 rfl (Nat.le_of_ble_eq_true rfl) ⟨Nat.zero_le _, Nat.zero_le _⟩ dX8_leadFrom_25) hw (fun H locs hw => ?_)
  obtain rfl := Option.some.inj h
  exact r_iret S hr hlocks hw dX8_leadFrom_28


theorem mf62_X1_pass : Cond.fieldLink RX1 62 "GasVoyages$Air" "fullness" "[I" ∈ wsX1_pass := by decide +kernel
set_option maxRecDepth 20000 in
theorem iw0_X1_pass : ∀ w ∈ u_ws RX0 TX0 5, w ∈ wsX1_pass := by decide +kernel
theorem mf15_X1_pass : Cond.fieldLink RX1 15 "GasVoyages$Balloon" "level" "I" ∈ wsX1_pass := by decide +kernel
set_option maxRecDepth 20000 in
theorem iw1_X1_pass : ∀ w ∈ u_ws RX1 TX1 8, w ∈ wsX1_pass := by decide +kernel
theorem mf9_X1_pass : Cond.fieldLink RX1 9 "GasVoyages$Balloon" "cell" "I" ∈ wsX1_pass := by decide +kernel
theorem mf33_X1_pass : Cond.fieldLink RX1 33 "GasVoyages$Balloon" "landed" "Z" ∈ wsX1_pass := by decide +kernel
theorem mf18_X1_pass : Cond.fieldLink RX1 18 "GasVoyages$Balloon" "tick" "I" ∈ wsX1_pass := by decide +kernel
def f_X1_pass_66 (k0 : Nat) (k4 : Nat) (σ : St) : Option St := bT (up σ k0 2 ((σ.1 k0 2) + 1)) fun s1 => some s1
set_option maxRecDepth 100000 in
set_option maxHeartbeats 4000000 in
theorem w_X1_pass_66 {p : Program} {l : Launch} {e : Env} {s : State} {m : MethodId} {args : Array Value} {below : List Frame} {meth : Method} {c : Code} {G : Gp} {A : Nat → Prop} (k0 : Nat) (k4 : Nat) (hk0 : kd k0 = 1) (hk4 : kd k4 = 8) (S : CallFix p m c cX1_pass 6 s args wsX1_pass RX1) (hr : meth.sig.returnType = none) (hlocks : meth.locks = false) (hE : Ev G A s) (σ : St) {σ' : St} (h : f_X1_pass_66 k0 k4  σ  = some σ') {H : Heap} {locs : List Loc} {ls : Array Slot} (hw : Ww G A σ s H locs) (hl : lv_has ls 6 [(0, .ref (ad G k0))]) : W p l e (rmd 4) s m args below meth c H locs 0 0 (Qv below args s G A σ') (F0 m 66 ls []) := by
  obtain ⟨hx, hb, hml, hown, hts⟩ := id S
  unfold f_X1_pass_66 at h
  refine lv_aload_n hx hb dX1_pass_66 rfl (lv_at hl 0 rfl) ?_
  refine lv_dup hx hb dX1_pass_67 rfl ?_
  refine r_gi S hE hw 2 iw1_X1_pass hk0 rfl (by decide) (hts _ mf18_X1_pass) dX1_pass_68 ?_
  refine lv_iconst (v := 1) hx hb dX1_pass_71 (by decide) ?_
  refine lv_iadd hx hb dX1_pass_72 ?_
  obtain ⟨s1, gs1, h⟩ := bT_out h
  refine r_pi S hE hw 2 ((σ.1 k0 2) + 1) iw1_X1_pass tyX1 tyX1_ok nmX1 hk0 rfl (by decide) (hts _ mf18_X1_pass) rfl (ty := .int) (by decide +kernel) rfl rfl dX1_pass_73 (fun H locs hw => ?_)
  rw [← gs1] at hw
  obtain rfl := Option.some.inj h
  exact r_vret S hr hlocks hw dX1_pass_76

def f_X1_pass (σ : St) (k0 : Nat) (p1 : Int32) (p2 : Int32) (k4 : Nat) : Option St := bT (f_X1_spend σ k0 p1 p2) fun s1 => Option.bind (f_X1_liftLessWeight s1 k0) fun v2 => bT (f_X1_climb s1 k0 v2) fun s3 => Option.bind (aL s3 5 8 (s3.1 k0 1)) fun v4 => bT (f_X1_ventAbove s3 k0 v4) fun s5 => if (s5.1 k0 1) = 0 then (bT (up s5 k0 7 1) fun s9 => f_X1_pass_66 k0 k4 s9) else (Option.bind (f_X8_leadFrom s5 k4 (s5.1 k0 0) (s5.1 k0 1) (f_X1_hour s5 k0)) fun v7 => bT (up s5 k0 0 v7) fun s8 => f_X1_pass_66 k0 k4 s8)
set_option maxRecDepth 100000 in
set_option maxHeartbeats 4000000 in
theorem c_X1_pass (l : Launch) (G : Gp) (A : Nat → Prop) (σ : St) (k0 : Nat) (p1 : Int32) (p2 : Int32) (k4 : Nat) (hk0 : kd k0 = 1) (hk4 : kd k4 = 8) {σ' : St} (h : f_X1_pass σ k0 p1 p2 k4 = some σ') : Kv l yX1_pass wsX1_pass 4 G A [.ref (ad G k0), .int p1, .int p2, .ref (ad G 3), .ref (ad G k4), .ref (ad G 1)] σ σ' := by
  unfold f_X1_pass at h
  refine r_start (ws := wsX1_pass) (d := 4) (by decide) rfl [.ref (ad G k0), .int p1, .int p2, .ref (ad G 3), .ref (ad G k4), .ref (ad G 1)] (Nat.le_of_ble_eq_true rfl) ?_
  intro p e s m below meth c S hr hlocks hE hw ls hl
  have hl : lv_has ls 6 [(0, .ref (ad G k0)), (1, .int p1), (2, .int p2), (3, .ref (ad G 3)), (4, .ref (ad G k4)), (5, .ref (ad G 1))] := hl
  obtain ⟨hx, hb, hml, hown, hts⟩ := id S
  refine lv_aload_n hx hb dX1_pass_0 rfl (lv_at hl 0 rfl) ?_
  refine lv_iload_n hx hb dX1_pass_1 rfl (lv_at hl 1 rfl) ?_
  refine lv_iload_n hx hb dX1_pass_2 rfl (lv_at hl 2 rfl) ?_
  obtain ⟨s1, gs1, h⟩ := bT_out h
  refine r_cv (r_runV (k := k0) (ci := 1) (As := [.int p1, .int p2]) (rest := []) S hE hw (c_X1_spend  l G A σ k0 p1 p2 hk0 gs1.symm) (cwV 2 hts gX1_pass_X1_spend rfl rfl rfl (by decide +kernel) ⟨Nat.le_of_ble_eq_true rfl, Nat.le_of_ble_eq_true rfl⟩) hk0 rfl (by decide) rfl hl.1 rfl (Nat.le_of_ble_eq_true rfl) ⟨Nat.zero_le _, Nat.zero_le _⟩ dX1_pass_3) hw (fun H locs hw => ?_)
  refine lv_aload_n hx hb dX1_pass_6 rfl (lv_at hl 0 rfl) ?_
  refine lv_aload_n hx hb dX1_pass_7 rfl (lv_at hl 0 rfl) ?_
  refine lv_aload_n hx hb dX1_pass_8 rfl (lv_at hl 3 rfl) ?_
  obtain ⟨v2, gv2, h⟩ := oB_out h
  refine r_ci (r_runV (k := k0) (ci := 1) (As := [.ref (ad G 3)]) (rest := [.ref (ad G k0)]) S hE hw (c_X1_liftLessWeight  l G A s1 k0 hk0 gv2) (cwV 1 hts gX1_pass_X1_liftLessWeight rfl rfl rfl (by decide +kernel) ⟨Nat.le_of_ble_eq_true rfl, Nat.le_of_ble_eq_true rfl⟩) hk0 rfl (by decide) rfl hl.1 rfl (Nat.le_of_ble_eq_true rfl) ⟨Nat.zero_le _, Nat.zero_le _⟩ dX1_pass_9) hw (fun H locs hw => ?_)
  obtain ⟨s3, gs3, h⟩ := bT_out h
  refine r_cv (r_runV (k := k0) (ci := 1) (As := [.int v2]) (rest := []) S hE hw (c_X1_climb  l G A s1 k0 v2 hk0 gs3.symm) (cwV 1 hts gX1_pass_X1_climb rfl rfl rfl (by decide +kernel) ⟨Nat.le_of_ble_eq_true rfl, Nat.le_of_ble_eq_true rfl⟩) hk0 rfl (by decide) rfl hl.1 rfl (Nat.le_of_ble_eq_true rfl) ⟨Nat.zero_le _, Nat.zero_le _⟩ dX1_pass_12) hw (fun H locs hw => ?_)
  refine lv_aload_n hx hb dX1_pass_15 rfl (lv_at hl 0 rfl) ?_
  refine lv_aload_n hx hb dX1_pass_16 rfl (lv_at hl 3 rfl) ?_
  refine r_gr S hE hw 1 5 iw0_X1_pass rfl rfl (by decide) rfl (hts _ mf62_X1_pass) dX1_pass_17 ?_
  refine lv_aload_n hx hb dX1_pass_20 rfl (lv_at hl 0 rfl) ?_
  refine r_gi S hE hw 1 iw1_X1_pass hk0 rfl (by decide) (hts _ mf15_X1_pass) dX1_pass_21 ?_
  obtain ⟨v4, gv4, h⟩ := oB_out h
  refine r_al S hE hw rfl rfl gv4 dX1_pass_24 ?_
  obtain ⟨s5, gs5, h⟩ := bT_out h
  refine r_cv (r_runV (k := k0) (ci := 1) (As := [.int v4]) (rest := []) S hE hw (c_X1_ventAbove  l G A s3 k0 v4 hk0 gs5.symm) (cwV 1 hts gX1_pass_X1_ventAbove rfl rfl rfl (by decide +kernel) ⟨Nat.le_of_ble_eq_true rfl, Nat.le_of_ble_eq_true rfl⟩) hk0 rfl (by decide) rfl hl.1 rfl (Nat.le_of_ble_eq_true rfl) ⟨Nat.zero_le _, Nat.zero_le _⟩ dX1_pass_25) hw (fun H locs hw => ?_)
  refine lv_aload_n hx hb dX1_pass_28 rfl (lv_at hl 0 rfl) ?_
  refine r_gi S hE hw 1 iw1_X1_pass hk0 rfl (by decide) (hts _ mf15_X1_pass) dX1_pass_29 ?_
  refine lv_if_ne (tgt := 43) hx hb dX1_pass_32 (by decide) (fun c6 => ?_) (fun c6 => ?_)
  · have h := if_f c6 h
    refine lv_aload_n hx hb dX1_pass_43 rfl (lv_at hl 0 rfl) ?_
    refine lv_aload hx hb dX1_pass_44 (lv_at hl 4 rfl) ?_
    refine lv_aload_n hx hb dX1_pass_46 rfl (lv_at hl 0 rfl) ?_
    refine r_gi S hE hw 0 iw1_X1_pass hk0 rfl (by decide) (hts _ mf9_X1_pass) dX1_pass_47 ?_
    refine lv_aload_n hx hb dX1_pass_50 rfl (lv_at hl 0 rfl) ?_
    refine r_gi S hE hw 1 iw1_X1_pass hk0 rfl (by decide) (hts _ mf15_X1_pass) dX1_pass_51 ?_
    refine lv_aload_n hx hb dX1_pass_54 rfl (lv_at hl 0 rfl) ?_
    refine r_ci (r_runV (k := k0) (ci := 1) (As := []) (rest := [.int (s5.1 k0 1), .int (s5.1 k0 0), .ref (ad G k4), .ref (ad G k0)]) S hE hw (c_X1_hour  l G A s5 k0 hk0) (cwV 0 hts gX1_pass_X1_hour rfl rfl rfl (by decide +kernel) ⟨Nat.le_of_ble_eq_true rfl, Nat.le_of_ble_eq_true rfl⟩) hk0 rfl (by decide) rfl hl.1 rfl (Nat.le_of_ble_eq_true rfl) ⟨Nat.zero_le _, Nat.zero_le _⟩ dX1_pass_55) hw (fun H locs hw => ?_)
    refine lv_aload hx hb dX1_pass_58 (lv_at hl 5 rfl) ?_
    obtain ⟨v7, gv7, h⟩ := oB_out h
    refine r_ci (r_runV (k := k4) (ci := 8) (As := [.int (s5.1 k0 0), .int (s5.1 k0 1), .int (f_X1_hour s5 k0), .ref (ad G 1)]) (rest := [.ref (ad G k0)]) S hE hw (c_X8_leadFrom  l G A s5 k4 (s5.1 k0 0) (s5.1 k0 1) (f_X1_hour s5 k0) hk4 gv7) (cwV 4 hts gX1_pass_X8_leadFrom rfl rfl rfl (by decide +kernel) ⟨Nat.le_of_ble_eq_true rfl, Nat.le_of_ble_eq_true rfl⟩) hk4 rfl (by decide) rfl hl.1 rfl (Nat.le_of_ble_eq_true rfl) ⟨Nat.zero_le _, Nat.zero_le _⟩ dX1_pass_60) hw (fun H locs hw => ?_)
    obtain ⟨s8, gs8, h⟩ := bT_out h
    refine r_pi S hE hw 0 v7 iw1_X1_pass tyX1 tyX1_ok nmX1 hk0 rfl (by decide) (hts _ mf9_X1_pass) rfl (ty := .int) (by decide +kernel) rfl rfl dX1_pass_63 (fun H locs hw => ?_)
    rw [← gs8] at hw
    exact w_X1_pass_66 k0 k4 hk0 hk4 S hr hlocks hE   s8  h hw (lv_sub hl [0] rfl)
  · have h := if_t c6 h
    refine lv_aload_n hx hb dX1_pass_35 rfl (lv_at hl 0 rfl) ?_
    refine lv_iconst (v := 1) hx hb dX1_pass_36 (by decide) ?_
    obtain ⟨s9, gs9, h⟩ := bT_out h
    refine r_pi S hE hw 7 1 iw1_X1_pass tyX1 tyX1_ok nmX1 hk0 rfl (by decide) (hts _ mf33_X1_pass) rfl (ty := .boolean) (by decide +kernel) rfl rfl dX1_pass_37 (fun H locs hw => ?_)
    rw [← gs9] at hw
    refine lv_goto (tgt := 66) hx hb dX1_pass_40 (by decide) ?_
    exact w_X1_pass_66 k0 k4 hk0 hk4 S hr hlocks hE   s9  h hw (lv_sub hl [0] rfl)


theorem mf18_X2_add : Cond.fieldLink RX2 18 "GasVoyages$Chasers" "number" "I" ∈ wsX2_add := by decide +kernel
set_option maxRecDepth 20000 in
theorem iw2_X2_add : ∀ w ∈ u_ws RX2 TX2 6, w ∈ wsX2_add := by decide +kernel
theorem mf9_X2_add : Cond.fieldLink RX2 9 "GasVoyages$Chasers" "cells" "[I" ∈ wsX2_add := by decide +kernel
theorem mf15_X2_add : Cond.fieldLink RX2 15 "GasVoyages$Chasers" "paces" "[I" ∈ wsX2_add := by decide +kernel
def f_X2_add (σ : St) (p1 : Int32) (p2 : Int32) : Option St := if 4 ≤ (σ.1 28 3) then (some σ) else (Option.bind (aS σ 29 4 (σ.1 28 3) p1) fun s2 => Option.bind (aS s2 30 4 (s2.1 28 3) p2) fun s3 => bT (up s3 28 3 ((s3.1 28 3) + 1)) fun s4 => some s4)
set_option maxRecDepth 100000 in
set_option maxHeartbeats 4000000 in
theorem c_X2_add (l : Launch) (G : Gp) (A : Nat → Prop) (σ : St) (p1 : Int32) (p2 : Int32) {σ' : St} (h : f_X2_add σ p1 p2 = some σ') : Kv l yX2_add wsX2_add 0 G A [.ref (ad G 28), .int p1, .int p2] σ σ' := by
  unfold f_X2_add at h
  refine r_start (ws := wsX2_add) (d := 0) (by decide) rfl [.ref (ad G 28), .int p1, .int p2] (Nat.le_of_ble_eq_true rfl) ?_
  intro p e s m below meth c S hr hlocks hE hw ls hl
  have hl : lv_has ls 3 [(0, .ref (ad G 28)), (1, .int p1), (2, .int p2)] := hl
  obtain ⟨hx, hb, hml, hown, hts⟩ := id S
  refine lv_aload_n hx hb dX2_add_0 rfl (lv_at hl 0 rfl) ?_
  refine r_gi S hE hw 3 iw2_X2_add rfl rfl (by decide) (hts _ mf18_X2_add) dX2_add_1 ?_
  refine lv_iconst (v := 4) hx hb dX2_add_4 (by decide) ?_
  refine lv_icmp_ge (tgt := 38) hx hb dX2_add_5 (by decide) (fun c1 => ?_) (fun c1 => ?_)
  · have h := if_t c1 h
    obtain rfl := Option.some.inj h
    exact r_vret S hr hlocks hw dX2_add_38
  · have h := if_f c1 h
    refine lv_aload_n hx hb dX2_add_8 rfl (lv_at hl 0 rfl) ?_
    refine r_gr S hE hw 1 29 iw2_X2_add rfl rfl (by decide) rfl (hts _ mf9_X2_add) dX2_add_9 ?_
    refine lv_aload_n hx hb dX2_add_12 rfl (lv_at hl 0 rfl) ?_
    refine r_gi S hE hw 3 iw2_X2_add rfl rfl (by decide) (hts _ mf18_X2_add) dX2_add_13 ?_
    refine lv_iload_n hx hb dX2_add_16 rfl (lv_at hl 1 rfl) ?_
    obtain ⟨s2, gs2, h⟩ := oB_out h
    refine r_as S hE hw rfl rfl gs2 dX2_add_17 (fun H locs hw => ?_)
    refine lv_aload_n hx hb dX2_add_18 rfl (lv_at hl 0 rfl) ?_
    refine r_gr S hE hw 2 30 iw2_X2_add rfl rfl (by decide) rfl (hts _ mf15_X2_add) dX2_add_19 ?_
    refine lv_aload_n hx hb dX2_add_22 rfl (lv_at hl 0 rfl) ?_
    refine r_gi S hE hw 3 iw2_X2_add rfl rfl (by decide) (hts _ mf18_X2_add) dX2_add_23 ?_
    refine lv_iload_n hx hb dX2_add_26 rfl (lv_at hl 2 rfl) ?_
    obtain ⟨s3, gs3, h⟩ := oB_out h
    refine r_as S hE hw rfl rfl gs3 dX2_add_27 (fun H locs hw => ?_)
    refine lv_aload_n hx hb dX2_add_28 rfl (lv_at hl 0 rfl) ?_
    refine lv_dup hx hb dX2_add_29 rfl ?_
    refine r_gi S hE hw 3 iw2_X2_add rfl rfl (by decide) (hts _ mf18_X2_add) dX2_add_30 ?_
    refine lv_iconst (v := 1) hx hb dX2_add_33 (by decide) ?_
    refine lv_iadd hx hb dX2_add_34 ?_
    obtain ⟨s4, gs4, h⟩ := bT_out h
    refine r_pi S hE hw 3 ((s3.1 28 3) + 1) iw2_X2_add tyX2 tyX2_ok nmX2 rfl rfl (by decide) (hts _ mf18_X2_add) rfl (ty := .int) (by decide +kernel) rfl rfl dX2_add_35 (fun H locs hw => ?_)
    rw [← gs4] at hw
    obtain rfl := Option.some.inj h
    exact r_vret S hr hlocks hw dX2_add_38


theorem mf18_X2_standOn : Cond.fieldLink RX2 18 "GasVoyages$Chasers" "number" "I" ∈ wsX2_standOn := by decide +kernel
set_option maxRecDepth 20000 in
theorem iw2_X2_standOn : ∀ w ∈ u_ws RX2 TX2 6, w ∈ wsX2_standOn := by decide +kernel
theorem mf9_X2_standOn : Cond.fieldLink RX2 9 "GasVoyages$Chasers" "cells" "[I" ∈ wsX2_standOn := by decide +kernel
def f_X2_standOn_2 : Nat → St → Int32 → Int32 → Option Int32
  | 0, _, _, _ => none
  | n + 1, σ, x1, x2 => if (σ.1 28 3) ≤ x2 then (some 0) else (Option.bind (aL σ 29 4 x2) fun v2 => if v2 = x1 then (some 1) else (f_X2_standOn_2 n σ x1 (x2 + 1)))
set_option maxRecDepth 100000 in
set_option maxHeartbeats 4000000 in
theorem w_X2_standOn_2 {p : Program} {l : Launch} {e : Env} {s : State} {m : MethodId} {args : Array Value} {below : List Frame} {meth : Method} {c : Code} {G : Gp} {A : Nat → Prop} (S : CallFix p m c cX2_standOn 3 s args wsX2_standOn RX2) (hr : meth.sig.returnType = (some .boolean)) (hlocks : meth.locks = false) (hE : Ev G A s) (n : Nat) (σ : St) (x1 : Int32) (x2 : Int32) {r : Int32} (h : f_X2_standOn_2   n σ x1 x2 = some r) {H : Heap} {locs : List Loc} {ls : Array Slot} (hw : Ww G A σ s H locs) (hl : lv_has ls 3 [(0, .ref (ad G 28)), (1, .int x1), (2, .int x2)]) : W p l e (rmd 0) s m args below meth c H locs 0 0 (Qz below args s G A r σ) (F0 m 2 ls []) := by
  obtain ⟨hx, hb, hml, hown, hts⟩ := id S
  induction n generalizing σ x1 x2 r  H locs ls with
  | zero => cases h
  | succ n ih =>
    unfold f_X2_standOn_2 at h
    refine lv_iload_n hx hb dX2_standOn_2 rfl (lv_at hl 2 rfl) ?_
    refine lv_aload_n hx hb dX2_standOn_3 rfl (lv_at hl 0 rfl) ?_
    refine r_gi S hE hw 3 iw2_X2_standOn rfl rfl (by decide) (hts _ mf18_X2_standOn) dX2_standOn_4 ?_
    refine lv_icmp_ge (tgt := 28) hx hb dX2_standOn_7 (by decide) (fun c1 => ?_) (fun c1 => ?_)
    · have h := if_t c1 h
      refine lv_iconst (v := 0) hx hb dX2_standOn_28 (by decide) ?_
      obtain rfl := Option.some.inj h
      exact r_zret S hr hlocks hw (Or.inl rfl) dX2_standOn_29
    · have h := if_f c1 h
      refine lv_aload_n hx hb dX2_standOn_10 rfl (lv_at hl 0 rfl) ?_
      refine r_gr S hE hw 1 29 iw2_X2_standOn rfl rfl (by decide) rfl (hts _ mf9_X2_standOn) dX2_standOn_11 ?_
      refine lv_iload_n hx hb dX2_standOn_14 rfl (lv_at hl 2 rfl) ?_
      obtain ⟨v2, gv2, h⟩ := oB_out h
      refine r_al S hE hw rfl rfl gv2 dX2_standOn_15 ?_
      refine lv_iload_n hx hb dX2_standOn_16 rfl (lv_at hl 1 rfl) ?_
      refine lv_icmp_ne (tgt := 22) hx hb dX2_standOn_17 (by decide) (fun c3 => ?_) (fun c3 => ?_)
      · have h := if_f c3 h
        refine lv_iinc (v := x2 + 1) (lv' := [(2, .int (x2 + 1)), (0, .ref (ad G 28)), (1, .int x1)]) hx hb dX2_standOn_22 hl (k := 2) rfl rfl (by decide) rfl (fun ls hl => ?_)
        refine lv_goto (tgt := 2) hx hb dX2_standOn_25 (by decide) ?_
        exact ih σ x1 (x2 + 1) h hw (lv_sub hl [1, 2, 0] rfl)
      · have h := if_t c3 h
        refine lv_iconst (v := 1) hx hb dX2_standOn_20 (by decide) ?_
        obtain rfl := Option.some.inj h
        exact r_zret S hr hlocks hw (Or.inr rfl) dX2_standOn_21

def f_X2_standOn (σ : St) (p1 : Int32) : Option Int32 := f_X2_standOn_2 10000 σ p1 0
set_option maxRecDepth 100000 in
set_option maxHeartbeats 4000000 in
theorem c_X2_standOn (l : Launch) (G : Gp) (A : Nat → Prop) (σ : St) (p1 : Int32) {r : Int32} (h : f_X2_standOn σ p1 = some r) : Kz l yX2_standOn wsX2_standOn 0 G A [.ref (ad G 28), .int p1] σ r σ := by
  unfold f_X2_standOn at h
  refine r_start (ws := wsX2_standOn) (d := 0) (by decide) rfl [.ref (ad G 28), .int p1] (Nat.le_of_ble_eq_true rfl) ?_
  intro p e s m below meth c S hr hlocks hE hw ls hl
  have hl : lv_has ls 3 [(0, .ref (ad G 28)), (1, .int p1)] := hl
  obtain ⟨hx, hb, hml, hown, hts⟩ := id S
  refine lv_iconst (v := 0) hx hb dX2_standOn_0 (by decide) ?_
  refine lv_istore_n (lv' := [(2, .int 0), (0, .ref (ad G 28)), (1, .int p1)]) hx hb dX2_standOn_1 rfl hl (by decide) rfl (fun ls hl => ?_)
  exact w_X2_standOn_2   S hr hlocks hE  10000 σ p1 0 h hw (lv_sub hl [1, 2, 0] rfl)


def f_J7_fill_53178_5 (k0 : Nat) : Nat → St → Int32 → Int32 → Int32 → Option St
  | 0, _, _, _, _ => none
  | n + 1, σ, x1, x2, x3 => if x3 ≤ x2 then (some σ) else (Option.bind (aS σ k0 (ln k0) x2 x1) fun s2 => f_J7_fill_53178_5 k0 n s2 x1 (x2 + 1) x3)
set_option maxRecDepth 100000 in
set_option maxHeartbeats 4000000 in
theorem w_J7_fill_53178_5 {p : Program} {l : Launch} {e : Env} {s : State} {m : MethodId} {args : Array Value} {below : List Frame} {meth : Method} {c : Code} {G : Gp} {A : Nat → Prop} (k0 : Nat) (hk0 : kd k0 = 11) (S : CallFix p m c cJ7_fill_53178 4 s args wsJ7_fill_53178 RJ7) (hr : meth.sig.returnType = none) (hlocks : meth.locks = false) (hE : Ev G A s) (n : Nat) (σ : St) (x1 : Int32) (x2 : Int32) (x3 : Int32) {σ' : St} (h : f_J7_fill_53178_5 k0  n σ x1 x2 x3 = some σ') {H : Heap} {locs : List Loc} {ls : Array Slot} (hw : Ww G A σ s H locs) (hl : lv_has ls 4 [(0, .ref (ad G k0)), (1, .int x1), (2, .int x2), (3, .int x3)]) : W p l e (rmd 0) s m args below meth c H locs 0 0 (Qv below args s G A σ') (F0 m 5 ls []) := by
  obtain ⟨hx, hb, hml, hown, hts⟩ := id S
  induction n generalizing σ x1 x2 x3  σ' H locs ls with
  | zero => cases h
  | succ n ih =>
    unfold f_J7_fill_53178_5 at h
    refine lv_iload_n hx hb dJ7_fill_53178_5 rfl (lv_at hl 2 rfl) ?_
    refine lv_iload_n hx hb dJ7_fill_53178_6 rfl (lv_at hl 3 rfl) ?_
    refine lv_icmp_ge (tgt := 20) hx hb dJ7_fill_53178_7 (by decide) (fun c1 => ?_) (fun c1 => ?_)
    · have h := if_t c1 h
      obtain rfl := Option.some.inj h
      exact r_vret S hr hlocks hw dJ7_fill_53178_20
    · have h := if_f c1 h
      refine lv_aload_n hx hb dJ7_fill_53178_10 rfl (lv_at hl 0 rfl) ?_
      refine lv_iload_n hx hb dJ7_fill_53178_11 rfl (lv_at hl 2 rfl) ?_
      refine lv_iload_n hx hb dJ7_fill_53178_12 rfl (lv_at hl 1 rfl) ?_
      obtain ⟨s2, gs2, h⟩ := oB_out h
      refine r_as S hE hw hk0 rfl gs2 dJ7_fill_53178_13 (fun H locs hw => ?_)
      refine lv_iinc (v := x2 + 1) (lv' := [(2, .int (x2 + 1)), (0, .ref (ad G k0)), (1, .int x1), (3, .int x3)]) hx hb dJ7_fill_53178_14 hl (k := 2) rfl rfl (by decide) rfl (fun ls hl => ?_)
      refine lv_goto (tgt := 5) hx hb dJ7_fill_53178_17 (by decide) ?_
      exact ih s2 x1 (x2 + 1) x3 h hw (lv_sub hl [1, 2, 0, 3] rfl)

def f_J7_fill_53178 (σ : St) (k0 : Nat) (p1 : Int32) : Option St := f_J7_fill_53178_5 k0 10000 σ p1 0 (nI (ln k0))
set_option maxRecDepth 100000 in
set_option maxHeartbeats 4000000 in
theorem c_J7_fill_53178 (l : Launch) (G : Gp) (A : Nat → Prop) (σ : St) (k0 : Nat) (p1 : Int32) (hk0 : kd k0 = 11) {σ' : St} (h : f_J7_fill_53178 σ k0 p1 = some σ') : Kv l yJ7_fill_53178 wsJ7_fill_53178 0 G A [.ref (ad G k0), .int p1] σ σ' := by
  unfold f_J7_fill_53178 at h
  refine r_start (ws := wsJ7_fill_53178) (d := 0) (by decide) rfl [.ref (ad G k0), .int p1] (Nat.le_of_ble_eq_true rfl) ?_
  intro p e s m below meth c S hr hlocks hE hw ls hl
  have hl : lv_has ls 4 [(0, .ref (ad G k0)), (1, .int p1)] := hl
  obtain ⟨hx, hb, hml, hown, hts⟩ := id S
  refine lv_iconst (v := 0) hx hb dJ7_fill_53178_0 (by decide) ?_
  refine lv_istore_n (lv' := [(2, .int 0), (0, .ref (ad G k0)), (1, .int p1)]) hx hb dJ7_fill_53178_1 rfl hl (by decide) rfl (fun ls hl => ?_)
  refine lv_aload_n hx hb dJ7_fill_53178_2 rfl (lv_at hl 1 rfl) ?_
  refine r_ln S hE hw hk0 dJ7_fill_53178_3 ?_
  refine lv_istore_n (lv' := [(3, .int (nI (ln k0))), (2, .int 0), (0, .ref (ad G k0)), (1, .int p1)]) hx hb dJ7_fill_53178_4 rfl hl (by decide) rfl (fun ls hl => ?_)
  exact w_J7_fill_53178_5 k0 hk0 S hr hlocks hE  10000 σ p1 0 (nI (ln k0)) h hw (lv_sub hl [2, 3, 1, 0] rfl)


theorem mf28_X2_stepOn : Cond.fieldLink RX2 28 "GasVoyages$Chasers" "land" "LGasVoyages$Land;" ∈ wsX2_stepOn := by decide +kernel
set_option maxRecDepth 20000 in
theorem iw2_X2_stepOn : ∀ w ∈ u_ws RX2 TX2 6, w ∈ wsX2_stepOn := by decide +kernel
theorem mf22_X2_stepOn : Cond.fieldLink RX2 22 "GasVoyages$Chasers" "steps" "[I" ∈ wsX2_stepOn := by decide +kernel
theorem mf38_X2_stepOn : Cond.fieldLink RX2 38 "GasVoyages$Land" "kinds" "[I" ∈ wsX2_stepOn := by decide +kernel
set_option maxRecDepth 20000 in
theorem iw5_X2_stepOn : ∀ w ∈ u_ws RX5 TX5 3, w ∈ wsX2_stepOn := by decide +kernel
theorem mf25_X2_stepOn : Cond.fieldLink RX2 25 "GasVoyages$Chasers" "queue" "[I" ∈ wsX2_stepOn := by decide +kernel
def f_X2_stepOn_5 : Nat → St → Int32 → Int32 → Int32 → Option (Int32 × St)
  | 0, _, _, _, _ => none
  | n + 1, σ, x1, x3, x4 => if 4 ≤ x4 then (some (x3, σ)) else (Option.bind (sdx x4) fun v2 => Option.bind (sdy x4) fun v3 => Option.bind (aL σ 31 576 (f_X5_movedFrom σ x1 v2 v3)) fun v4 => if v4 = (-1) then (Option.bind (aL σ 2 576 (f_X5_movedFrom σ x1 v2 v3)) fun v6 => if v6 = 1 then (f_X2_stepOn_5 n σ x1 x3 (x4 + 1)) else (if 576 ≤ x3 then (f_X2_stepOn_5 n σ x1 x3 (x4 + 1)) else (Option.bind (aL σ 31 576 x1) fun v9 => Option.bind (aS σ 31 576 (f_X5_movedFrom σ x1 v2 v3) (v9 + 1)) fun s10 => Option.bind (aS s10 32 576 x3 (f_X5_movedFrom σ x1 v2 v3)) fun s11 => f_X2_stepOn_5 n s11 x1 (x3 + 1) (x4 + 1)))) else (f_X2_stepOn_5 n σ x1 x3 (x4 + 1)))
set_option maxRecDepth 100000 in
set_option maxHeartbeats 4000000 in
theorem w_X2_stepOn_5 {p : Program} {l : Launch} {e : Env} {s : State} {m : MethodId} {args : Array Value} {below : List Frame} {meth : Method} {c : Code} {G : Gp} {A : Nat → Prop} (S : CallFix p m c cX2_stepOn 6 s args wsX2_stepOn RX2) (hr : meth.sig.returnType = (some .int)) (hlocks : meth.locks = false) (hE : Ev G A s) (n : Nat) (σ : St) (x1 : Int32) (x3 : Int32) (x4 : Int32) {r : Int32} {σ' : St} (h : f_X2_stepOn_5   n σ x1 x3 x4 = some (r, σ')) {H : Heap} {locs : List Loc} {ls : Array Slot} (hw : Ww G A σ s H locs) (hl : lv_has ls 6 [(0, .ref (ad G 28)), (1, .int x1), (3, .int x3), (4, .int x4)]) : W p l e (rmd 3) s m args below meth c H locs 0 0 (Qi below args s G A r σ') (F0 m 5 ls []) := by
  obtain ⟨hx, hb, hml, hown, hts⟩ := id S
  induction n generalizing σ x1 x3 x4 r σ' H locs ls with
  | zero => cases h
  | succ n ih =>
    unfold f_X2_stepOn_5 at h
    refine lv_iload hx hb dX2_stepOn_5 (lv_at hl 3 rfl) ?_
    refine lv_iconst (v := 4) hx hb dX2_stepOn_7 (by decide) ?_
    refine lv_icmp_ge (tgt := 97) hx hb dX2_stepOn_8 (by decide) (fun c1 => ?_) (fun c1 => ?_)
    · have h := if_t c1 h
      refine lv_iload_n hx hb dX2_stepOn_97 rfl (lv_at hl 2 rfl) ?_
      obtain ⟨rfl, rfl⟩ := rt2 h
      exact r_iret S hr hlocks hw dX2_stepOn_98
    · have h := if_f c1 h
      refine lv_aload_n hx hb dX2_stepOn_11 rfl (lv_at hl 0 rfl) ?_
      refine r_gr S hE hw 0 1 iw2_X2_stepOn rfl rfl (by decide) rfl (hts _ mf28_X2_stepOn) dX2_stepOn_12 ?_
      refine lv_iload_n hx hb dX2_stepOn_15 rfl (lv_at hl 1 rfl) ?_
      refine va_getsN hx hb hE.2.1.1 hw.2.2.1 hown (va_Nw.use rfl hE.2.2.2.1) (fun _ h9 => h9) dX2_stepOn_16 ?_
      refine lv_iload hx hb dX2_stepOn_19 (lv_at hl 3 rfl) ?_
      obtain ⟨v2, gv2, h⟩ := oB_out h
      refine va_ti hx hb hE.2.1.2.1 hw.2.2.1 (sdx_in gv2).1 (sdx_in gv2).2 dX2_stepOn_21 ?_
      refine va_getsN hx hb hE.2.1.2.2.1 hw.2.2.1 hown (va_Nw.use rfl hE.2.2.2.2) (fun _ h9 => h9) dX2_stepOn_22 ?_
      refine lv_iload hx hb dX2_stepOn_25 (lv_at hl 3 rfl) ?_
      obtain ⟨v3, gv3, h⟩ := oB_out h
      refine va_ti hx hb hE.2.1.2.2.2 hw.2.2.1 (sdy_in gv3).1 (sdy_in gv3).2 dX2_stepOn_27 ?_
      refine r_ci (r_runV (k := 1) (ci := 5) (As := [.int x1, .int v2, .int v3]) (rest := []) S hE hw (c_X5_movedFrom  l G A σ x1 v2 v3) (cwV 3 hts gX2_stepOn_X5_movedFrom rfl rfl rfl (by decide +kernel) ⟨Nat.le_of_ble_eq_true rfl, Nat.le_of_ble_eq_true rfl⟩) rfl rfl (by decide) rfl hl.1 rfl (Nat.le_of_ble_eq_true rfl) ⟨Nat.zero_le _, Nat.zero_le _⟩ dX2_stepOn_28) hw (fun H locs hw => ?_)
      refine lv_istore (lv' := [(5, .int (f_X5_movedFrom σ x1 v2 v3)), (0, .ref (ad G 28)), (1, .int x1), (3, .int x3), (4, .int x4)]) hx hb dX2_stepOn_31 hl (by decide) rfl (fun ls hl => ?_)
      refine lv_aload_n hx hb dX2_stepOn_33 rfl (lv_at hl 1 rfl) ?_
      refine r_gr S hE hw 4 31 iw2_X2_stepOn rfl rfl (by decide) rfl (hts _ mf22_X2_stepOn) dX2_stepOn_34 ?_
      refine lv_iload hx hb dX2_stepOn_37 (lv_at hl 0 rfl) ?_
      obtain ⟨v4, gv4, h⟩ := oB_out h
      refine r_al S hE hw rfl rfl gv4 dX2_stepOn_39 ?_
      refine lv_iconst (v := (-1)) hx hb dX2_stepOn_40 (by decide) ?_
      refine lv_icmp_ne (tgt := 91) hx hb dX2_stepOn_41 (by decide) (fun c5 => ?_) (fun c5 => ?_)
      · have h := if_f c5 h
        refine lv_iinc (v := x4 + 1) (lv' := [(4, .int (x4 + 1)), (5, .int (f_X5_movedFrom σ x1 v2 v3)), (0, .ref (ad G 28)), (1, .int x1), (3, .int x3)]) hx hb dX2_stepOn_91 hl (k := 4) rfl rfl (by decide) rfl (fun ls hl => ?_)
        refine lv_goto (tgt := 5) hx hb dX2_stepOn_94 (by decide) ?_
        exact ih σ x1 x3 (x4 + 1) h hw (lv_sub hl [2, 3, 4, 0] rfl)
      · have h := if_t c5 h
        refine lv_aload_n hx hb dX2_stepOn_44 rfl (lv_at hl 1 rfl) ?_
        refine r_gr S hE hw 0 1 iw2_X2_stepOn rfl rfl (by decide) rfl (hts _ mf28_X2_stepOn) dX2_stepOn_45 ?_
        refine r_gr S hE hw 2 2 iw5_X2_stepOn rfl rfl (by decide) rfl (hts _ mf38_X2_stepOn) dX2_stepOn_48 ?_
        refine lv_iload hx hb dX2_stepOn_51 (lv_at hl 0 rfl) ?_
        obtain ⟨v6, gv6, h⟩ := oB_out h
        refine r_al S hE hw rfl rfl gv6 dX2_stepOn_53 ?_
        refine lv_iconst (v := 1) hx hb dX2_stepOn_54 (by decide) ?_
        refine lv_icmp_eq (tgt := 91) hx hb dX2_stepOn_55 (by decide) (fun c7 => ?_) (fun c7 => ?_)
        · have h := if_t c7 h
          refine lv_iinc (v := x4 + 1) (lv' := [(4, .int (x4 + 1)), (5, .int (f_X5_movedFrom σ x1 v2 v3)), (0, .ref (ad G 28)), (1, .int x1), (3, .int x3)]) hx hb dX2_stepOn_91 hl (k := 4) rfl rfl (by decide) rfl (fun ls hl => ?_)
          refine lv_goto (tgt := 5) hx hb dX2_stepOn_94 (by decide) ?_
          exact ih σ x1 x3 (x4 + 1) h hw (lv_sub hl [2, 3, 4, 0] rfl)
        · have h := if_f c7 h
          refine lv_iload_n hx hb dX2_stepOn_58 rfl (lv_at hl 3 rfl) ?_
          refine lv_sipush (v := 576) hx hb dX2_stepOn_59 (by decide) ?_
          refine lv_icmp_ge (tgt := 91) hx hb dX2_stepOn_62 (by decide) (fun c8 => ?_) (fun c8 => ?_)
          · have h := if_t c8 h
            refine lv_iinc (v := x4 + 1) (lv' := [(4, .int (x4 + 1)), (5, .int (f_X5_movedFrom σ x1 v2 v3)), (0, .ref (ad G 28)), (1, .int x1), (3, .int x3)]) hx hb dX2_stepOn_91 hl (k := 4) rfl rfl (by decide) rfl (fun ls hl => ?_)
            refine lv_goto (tgt := 5) hx hb dX2_stepOn_94 (by decide) ?_
            exact ih σ x1 x3 (x4 + 1) h hw (lv_sub hl [2, 3, 4, 0] rfl)
          · have h := if_f c8 h
            refine lv_aload_n hx hb dX2_stepOn_65 rfl (lv_at hl 1 rfl) ?_
            refine r_gr S hE hw 4 31 iw2_X2_stepOn rfl rfl (by decide) rfl (hts _ mf22_X2_stepOn) dX2_stepOn_66 ?_
            refine lv_iload hx hb dX2_stepOn_69 (lv_at hl 0 rfl) ?_
            refine lv_aload_n hx hb dX2_stepOn_71 rfl (lv_at hl 1 rfl) ?_
            refine r_gr S hE hw 4 31 iw2_X2_stepOn rfl rfl (by decide) rfl (hts _ mf22_X2_stepOn) dX2_stepOn_72 ?_
            refine lv_iload_n hx hb dX2_stepOn_75 rfl (lv_at hl 2 rfl) ?_
            obtain ⟨v9, gv9, h⟩ := oB_out h
            refine r_al S hE hw rfl rfl gv9 dX2_stepOn_76 ?_
            refine lv_iconst (v := 1) hx hb dX2_stepOn_77 (by decide) ?_
            refine lv_iadd hx hb dX2_stepOn_78 ?_
            obtain ⟨s10, gs10, h⟩ := oB_out h
            refine r_as S hE hw rfl rfl gs10 dX2_stepOn_79 (fun H locs hw => ?_)
            refine lv_aload_n hx hb dX2_stepOn_80 rfl (lv_at hl 1 rfl) ?_
            refine r_gr S hE hw 5 32 iw2_X2_stepOn rfl rfl (by decide) rfl (hts _ mf25_X2_stepOn) dX2_stepOn_81 ?_
            refine lv_iload_n hx hb dX2_stepOn_84 rfl (lv_at hl 3 rfl) ?_
            refine lv_iload hx hb dX2_stepOn_85 (lv_at hl 0 rfl) ?_
            obtain ⟨s11, gs11, h⟩ := oB_out h
            refine r_as S hE hw rfl rfl gs11 dX2_stepOn_87 (fun H locs hw => ?_)
            refine lv_iinc (v := x3 + 1) (lv' := [(3, .int (x3 + 1)), (5, .int (f_X5_movedFrom σ x1 v2 v3)), (0, .ref (ad G 28)), (1, .int x1), (4, .int x4)]) hx hb dX2_stepOn_88 hl (k := 3) rfl rfl (by decide) rfl (fun ls hl => ?_)
            refine lv_iinc (v := x4 + 1) (lv' := [(4, .int (x4 + 1)), (3, .int (x3 + 1)), (5, .int (f_X5_movedFrom σ x1 v2 v3)), (0, .ref (ad G 28)), (1, .int x1)]) hx hb dX2_stepOn_91 hl (k := 4) rfl rfl (by decide) rfl (fun ls hl => ?_)
            refine lv_goto (tgt := 5) hx hb dX2_stepOn_94 (by decide) ?_
            exact ih s11 x1 (x3 + 1) (x4 + 1) h hw (lv_sub hl [3, 4, 1, 0] rfl)

def f_X2_stepOn (σ : St) (p1 : Int32) (p2 : Int32) : Option (Int32 × St) := f_X2_stepOn_5 10000 σ p1 p2 0
set_option maxRecDepth 100000 in
set_option maxHeartbeats 4000000 in
theorem c_X2_stepOn (l : Launch) (G : Gp) (A : Nat → Prop) (σ : St) (p1 : Int32) (p2 : Int32) {r : Int32} {σ' : St} (h : f_X2_stepOn σ p1 p2 = some (r, σ')) : Ki l yX2_stepOn wsX2_stepOn 3 G A [.ref (ad G 28), .int p1, .int p2] σ r σ' := by
  unfold f_X2_stepOn at h
  refine r_start (ws := wsX2_stepOn) (d := 3) (by decide) rfl [.ref (ad G 28), .int p1, .int p2] (Nat.le_of_ble_eq_true rfl) ?_
  intro p e s m below meth c S hr hlocks hE hw ls hl
  have hl : lv_has ls 6 [(0, .ref (ad G 28)), (1, .int p1), (2, .int p2)] := hl
  obtain ⟨hx, hb, hml, hown, hts⟩ := id S
  refine lv_iload_n hx hb dX2_stepOn_0 rfl (lv_at hl 2 rfl) ?_
  refine lv_istore_n (lv' := [(3, .int p2), (0, .ref (ad G 28)), (1, .int p1), (2, .int p2)]) hx hb dX2_stepOn_1 rfl hl (by decide) rfl (fun ls hl => ?_)
  refine lv_iconst (v := 0) hx hb dX2_stepOn_2 (by decide) ?_
  refine lv_istore (lv' := [(4, .int 0), (3, .int p2), (0, .ref (ad G 28)), (1, .int p1), (2, .int p2)]) hx hb dX2_stepOn_3 hl (by decide) rfl (fun ls hl => ?_)
  exact w_X2_stepOn_5   S hr hlocks hE  10000 σ p1 p2 0 h hw (lv_sub hl [2, 3, 1, 0] rfl)


theorem mf22_X2_measureFrom : Cond.fieldLink RX2 22 "GasVoyages$Chasers" "steps" "[I" ∈ wsX2_measureFrom := by decide +kernel
set_option maxRecDepth 20000 in
theorem iw2_X2_measureFrom : ∀ w ∈ u_ws RX2 TX2 6, w ∈ wsX2_measureFrom := by decide +kernel
theorem mf28_X2_measureFrom : Cond.fieldLink RX2 28 "GasVoyages$Chasers" "land" "LGasVoyages$Land;" ∈ wsX2_measureFrom := by decide +kernel
theorem mf38_X2_measureFrom : Cond.fieldLink RX2 38 "GasVoyages$Land" "kinds" "[I" ∈ wsX2_measureFrom := by decide +kernel
set_option maxRecDepth 20000 in
theorem iw5_X2_measureFrom : ∀ w ∈ u_ws RX5 TX5 3, w ∈ wsX2_measureFrom := by decide +kernel
theorem mf25_X2_measureFrom : Cond.fieldLink RX2 25 "GasVoyages$Chasers" "queue" "[I" ∈ wsX2_measureFrom := by decide +kernel
def f_X2_measureFrom_40 : Nat → St → Int32 → Int32 → Option St
  | 0, _, _, _ => none
  | n + 1, σ, x2, x3 => if x2 ≤ x3 then (some σ) else (if 576 ≤ x3 then (some σ) else (Option.bind (aL σ 32 576 x3) fun v3 => oB2 (f_X2_stepOn σ v3 x2) fun v4 s5 => f_X2_measureFrom_40 n s5 v4 (x3 + 1)))
set_option maxRecDepth 100000 in
set_option maxHeartbeats 4000000 in
theorem w_X2_measureFrom_40 {p : Program} {l : Launch} {e : Env} {s : State} {m : MethodId} {args : Array Value} {below : List Frame} {meth : Method} {c : Code} {G : Gp} {A : Nat → Prop} (S : CallFix p m c cX2_measureFrom 4 s args wsX2_measureFrom RX2) (hr : meth.sig.returnType = none) (hlocks : meth.locks = false) (hE : Ev G A s) (n : Nat) (σ : St) (x2 : Int32) (x3 : Int32) {σ' : St} (h : f_X2_measureFrom_40   n σ x2 x3 = some σ') {H : Heap} {locs : List Loc} {ls : Array Slot} (hw : Ww G A σ s H locs) (hl : lv_has ls 4 [(0, .ref (ad G 28)), (2, .int x2), (3, .int x3)]) : W p l e (rmd 4) s m args below meth c H locs 0 0 (Qv below args s G A σ') (F0 m 40 ls []) := by
  obtain ⟨hx, hb, hml, hown, hts⟩ := id S
  induction n generalizing σ x2 x3  σ' H locs ls with
  | zero => cases h
  | succ n ih =>
    unfold f_X2_measureFrom_40 at h
    refine lv_iload_n hx hb dX2_measureFrom_40 rfl (lv_at hl 2 rfl) ?_
    refine lv_iload_n hx hb dX2_measureFrom_41 rfl (lv_at hl 1 rfl) ?_
    refine lv_icmp_ge (tgt := 70) hx hb dX2_measureFrom_42 (by decide) (fun c1 => ?_) (fun c1 => ?_)
    · have h := if_t c1 h
      obtain rfl := Option.some.inj h
      exact r_vret S hr hlocks hw dX2_measureFrom_70
    · have h := if_f c1 h
      refine lv_iload_n hx hb dX2_measureFrom_45 rfl (lv_at hl 2 rfl) ?_
      refine lv_sipush (v := 576) hx hb dX2_measureFrom_46 (by decide) ?_
      refine lv_icmp_ge (tgt := 70) hx hb dX2_measureFrom_49 (by decide) (fun c2 => ?_) (fun c2 => ?_)
      · have h := if_t c2 h
        obtain rfl := Option.some.inj h
        exact r_vret S hr hlocks hw dX2_measureFrom_70
      · have h := if_f c2 h
        refine lv_aload_n hx hb dX2_measureFrom_52 rfl (lv_at hl 0 rfl) ?_
        refine lv_aload_n hx hb dX2_measureFrom_53 rfl (lv_at hl 0 rfl) ?_
        refine r_gr S hE hw 5 32 iw2_X2_measureFrom rfl rfl (by decide) rfl (hts _ mf25_X2_measureFrom) dX2_measureFrom_54 ?_
        refine lv_iload_n hx hb dX2_measureFrom_57 rfl (lv_at hl 2 rfl) ?_
        obtain ⟨v3, gv3, h⟩ := oB_out h
        refine r_al S hE hw rfl rfl gv3 dX2_measureFrom_58 ?_
        refine lv_iload_n hx hb dX2_measureFrom_59 rfl (lv_at hl 1 rfl) ?_
        obtain ⟨v4, s5, gv4, h⟩ := oB2_out h
        refine r_ci (r_runV (k := 28) (ci := 2) (As := [.int v3, .int x2]) (rest := []) S hE hw (c_X2_stepOn  l G A σ v3 x2 gv4) (cwV 2 hts gX2_measureFrom_X2_stepOn rfl rfl rfl (by decide +kernel) ⟨Nat.le_of_ble_eq_true rfl, Nat.le_of_ble_eq_true rfl⟩) rfl rfl (by decide) rfl hl.1 rfl (Nat.le_of_ble_eq_true rfl) ⟨Nat.zero_le _, Nat.zero_le _⟩ dX2_measureFrom_60) hw (fun H locs hw => ?_)
        refine lv_istore_n (lv' := [(2, .int v4), (0, .ref (ad G 28)), (3, .int x3)]) hx hb dX2_measureFrom_63 rfl hl (by decide) rfl (fun ls hl => ?_)
        refine lv_iinc (v := x3 + 1) (lv' := [(3, .int (x3 + 1)), (2, .int v4), (0, .ref (ad G 28))]) hx hb dX2_measureFrom_64 hl (k := 2) rfl rfl (by decide) rfl (fun ls hl => ?_)
        refine lv_goto (tgt := 40) hx hb dX2_measureFrom_67 (by decide) ?_
        exact ih s5 v4 (x3 + 1) h hw (lv_sub hl [2, 1, 0] rfl)

def f_X2_measureFrom (σ : St) (p1 : Int32) : Option St := Option.bind (f_J7_fill_53178 σ 31 (-1)) fun s1 => Option.bind (aL s1 2 576 p1) fun v2 => if v2 = 1 then (some s1) else (Option.bind (aS s1 31 576 p1 0) fun s4 => Option.bind (aS s4 32 576 0 p1) fun s5 => f_X2_measureFrom_40 10000 s5 1 0)
set_option maxRecDepth 100000 in
set_option maxHeartbeats 4000000 in
theorem c_X2_measureFrom (l : Launch) (G : Gp) (A : Nat → Prop) (σ : St) (p1 : Int32) {σ' : St} (h : f_X2_measureFrom σ p1 = some σ') : Kv l yX2_measureFrom wsX2_measureFrom 4 G A [.ref (ad G 28), .int p1] σ σ' := by
  unfold f_X2_measureFrom at h
  refine r_start (ws := wsX2_measureFrom) (d := 4) (by decide) rfl [.ref (ad G 28), .int p1] (Nat.le_of_ble_eq_true rfl) ?_
  intro p e s m below meth c S hr hlocks hE hw ls hl
  have hl : lv_has ls 4 [(0, .ref (ad G 28)), (1, .int p1)] := hl
  obtain ⟨hx, hb, hml, hown, hts⟩ := id S
  refine lv_aload_n hx hb dX2_measureFrom_0 rfl (lv_at hl 0 rfl) ?_
  refine r_gr S hE hw 4 31 iw2_X2_measureFrom rfl rfl (by decide) rfl (hts _ mf22_X2_measureFrom) dX2_measureFrom_1 ?_
  refine lv_iconst (v := (-1)) hx hb dX2_measureFrom_4 (by decide) ?_
  obtain ⟨s1, gs1, h⟩ := oB_out h
  refine r_cv (r_runS (As := [.ref (ad G 31), .int (-1)]) (rest := []) S hE hw (c_J7_fill_53178  l G A σ 31 (-1) rfl gs1) (va_cwS 2 hts gX2_measureFrom_J7_fill_53178 rfl rfl rfl (by decide +kernel) ⟨Nat.le_of_ble_eq_true rfl, Nat.le_of_ble_eq_true rfl⟩) rfl hl.1 rfl (Nat.le_of_ble_eq_true rfl) ⟨Nat.zero_le _, Nat.zero_le _⟩ dX2_measureFrom_5) hw (fun H locs hw => ?_)
  refine lv_aload_n hx hb dX2_measureFrom_8 rfl (lv_at hl 0 rfl) ?_
  refine r_gr S hE hw 0 1 iw2_X2_measureFrom rfl rfl (by decide) rfl (hts _ mf28_X2_measureFrom) dX2_measureFrom_9 ?_
  refine r_gr S hE hw 2 2 iw5_X2_measureFrom rfl rfl (by decide) rfl (hts _ mf38_X2_measureFrom) dX2_measureFrom_12 ?_
  refine lv_iload_n hx hb dX2_measureFrom_15 rfl (lv_at hl 1 rfl) ?_
  obtain ⟨v2, gv2, h⟩ := oB_out h
  refine r_al S hE hw rfl rfl gv2 dX2_measureFrom_16 ?_
  refine lv_iconst (v := 1) hx hb dX2_measureFrom_17 (by decide) ?_
  refine lv_icmp_ne (tgt := 22) hx hb dX2_measureFrom_18 (by decide) (fun c3 => ?_) (fun c3 => ?_)
  · have h := if_f c3 h
    refine lv_aload_n hx hb dX2_measureFrom_22 rfl (lv_at hl 0 rfl) ?_
    refine r_gr S hE hw 4 31 iw2_X2_measureFrom rfl rfl (by decide) rfl (hts _ mf22_X2_measureFrom) dX2_measureFrom_23 ?_
    refine lv_iload_n hx hb dX2_measureFrom_26 rfl (lv_at hl 1 rfl) ?_
    refine lv_iconst (v := 0) hx hb dX2_measureFrom_27 (by decide) ?_
    obtain ⟨s4, gs4, h⟩ := oB_out h
    refine r_as S hE hw rfl rfl gs4 dX2_measureFrom_28 (fun H locs hw => ?_)
    refine lv_aload_n hx hb dX2_measureFrom_29 rfl (lv_at hl 0 rfl) ?_
    refine r_gr S hE hw 5 32 iw2_X2_measureFrom rfl rfl (by decide) rfl (hts _ mf25_X2_measureFrom) dX2_measureFrom_30 ?_
    refine lv_iconst (v := 0) hx hb dX2_measureFrom_33 (by decide) ?_
    refine lv_iload_n hx hb dX2_measureFrom_34 rfl (lv_at hl 1 rfl) ?_
    obtain ⟨s5, gs5, h⟩ := oB_out h
    refine r_as S hE hw rfl rfl gs5 dX2_measureFrom_35 (fun H locs hw => ?_)
    refine lv_iconst (v := 1) hx hb dX2_measureFrom_36 (by decide) ?_
    refine lv_istore_n (lv' := [(2, .int 1), (0, .ref (ad G 28)), (1, .int p1)]) hx hb dX2_measureFrom_37 rfl hl (by decide) rfl (fun ls hl => ?_)
    refine lv_iconst (v := 0) hx hb dX2_measureFrom_38 (by decide) ?_
    refine lv_istore_n (lv' := [(3, .int 0), (2, .int 1), (0, .ref (ad G 28)), (1, .int p1)]) hx hb dX2_measureFrom_39 rfl hl (by decide) rfl (fun ls hl => ?_)
    exact w_X2_measureFrom_40   S hr hlocks hE  10000 s5 1 0 h hw (lv_sub hl [2, 1, 0] rfl)
  · have h := if_t c3 h
    obtain rfl := Option.some.inj h
    exact r_vret S hr hlocks hw dX2_measureFrom_21


theorem mf22_X2_ticksOf : Cond.fieldLink RX2 22 "GasVoyages$Chasers" "steps" "[I" ∈ wsX2_ticksOf := by decide +kernel
set_option maxRecDepth 20000 in
theorem iw2_X2_ticksOf : ∀ w ∈ u_ws RX2 TX2 6, w ∈ wsX2_ticksOf := by decide +kernel
theorem mf9_X2_ticksOf : Cond.fieldLink RX2 9 "GasVoyages$Chasers" "cells" "[I" ∈ wsX2_ticksOf := by decide +kernel
theorem mf15_X2_ticksOf : Cond.fieldLink RX2 15 "GasVoyages$Chasers" "paces" "[I" ∈ wsX2_ticksOf := by decide +kernel
def f_X2_ticksOf (σ : St) (p1 : Int32) : Option Int32 := Option.bind (aL σ 29 4 p1) fun v1 => Option.bind (aL σ 31 576 v1) fun v2 => Option.bind (aL σ 30 4 p1) fun v3 => if v2 = (-1) then (some (-1)) else (if 1 ≤ v3 then (Option.bind (nz v3) fun _ => some (((v2 + v3) - 1) / v3)) else (some (-1)))
set_option maxRecDepth 100000 in
set_option maxHeartbeats 4000000 in
theorem c_X2_ticksOf (l : Launch) (G : Gp) (A : Nat → Prop) (σ : St) (p1 : Int32) {r : Int32} (h : f_X2_ticksOf σ p1 = some r) : Ki l yX2_ticksOf wsX2_ticksOf 0 G A [.ref (ad G 28), .int p1] σ r σ := by
  unfold f_X2_ticksOf at h
  refine r_start (ws := wsX2_ticksOf) (d := 0) (by decide) rfl [.ref (ad G 28), .int p1] (Nat.le_of_ble_eq_true rfl) ?_
  intro p e s m below meth c S hr hlocks hE hw ls hl
  have hl : lv_has ls 4 [(0, .ref (ad G 28)), (1, .int p1)] := hl
  obtain ⟨hx, hb, hml, hown, hts⟩ := id S
  refine lv_aload_n hx hb dX2_ticksOf_0 rfl (lv_at hl 0 rfl) ?_
  refine r_gr S hE hw 4 31 iw2_X2_ticksOf rfl rfl (by decide) rfl (hts _ mf22_X2_ticksOf) dX2_ticksOf_1 ?_
  refine lv_aload_n hx hb dX2_ticksOf_4 rfl (lv_at hl 0 rfl) ?_
  refine r_gr S hE hw 1 29 iw2_X2_ticksOf rfl rfl (by decide) rfl (hts _ mf9_X2_ticksOf) dX2_ticksOf_5 ?_
  refine lv_iload_n hx hb dX2_ticksOf_8 rfl (lv_at hl 1 rfl) ?_
  obtain ⟨v1, gv1, h⟩ := oB_out h
  refine r_al S hE hw rfl rfl gv1 dX2_ticksOf_9 ?_
  obtain ⟨v2, gv2, h⟩ := oB_out h
  refine r_al S hE hw rfl rfl gv2 dX2_ticksOf_10 ?_
  refine lv_istore_n (lv' := [(2, .int v2), (0, .ref (ad G 28)), (1, .int p1)]) hx hb dX2_ticksOf_11 rfl hl (by decide) rfl (fun ls hl => ?_)
  refine lv_aload_n hx hb dX2_ticksOf_12 rfl (lv_at hl 1 rfl) ?_
  refine r_gr S hE hw 2 30 iw2_X2_ticksOf rfl rfl (by decide) rfl (hts _ mf15_X2_ticksOf) dX2_ticksOf_13 ?_
  refine lv_iload_n hx hb dX2_ticksOf_16 rfl (lv_at hl 2 rfl) ?_
  obtain ⟨v3, gv3, h⟩ := oB_out h
  refine r_al S hE hw rfl rfl gv3 dX2_ticksOf_17 ?_
  refine lv_istore_n (lv' := [(3, .int v3), (2, .int v2), (0, .ref (ad G 28)), (1, .int p1)]) hx hb dX2_ticksOf_18 rfl hl (by decide) rfl (fun ls hl => ?_)
  refine lv_iload_n hx hb dX2_ticksOf_19 rfl (lv_at hl 1 rfl) ?_
  refine lv_iconst (v := (-1)) hx hb dX2_ticksOf_20 (by decide) ?_
  refine lv_icmp_eq (tgt := 29) hx hb dX2_ticksOf_21 (by decide) (fun c4 => ?_) (fun c4 => ?_)
  · have h := if_t c4 h
    refine lv_iconst (v := (-1)) hx hb dX2_ticksOf_29 (by decide) ?_
    obtain rfl := Option.some.inj h
    exact r_iret S hr hlocks hw dX2_ticksOf_30
  · have h := if_f c4 h
    refine lv_iload_n hx hb dX2_ticksOf_24 rfl (lv_at hl 0 rfl) ?_
    refine lv_iconst (v := 1) hx hb dX2_ticksOf_25 (by decide) ?_
    refine lv_icmp_ge (tgt := 31) hx hb dX2_ticksOf_26 (by decide) (fun c5 => ?_) (fun c5 => ?_)
    · have h := if_t c5 h
      refine lv_iload_n hx hb dX2_ticksOf_31 rfl (lv_at hl 1 rfl) ?_
      refine lv_iload_n hx hb dX2_ticksOf_32 rfl (lv_at hl 0 rfl) ?_
      refine lv_iadd hx hb dX2_ticksOf_33 ?_
      refine lv_iconst (v := 1) hx hb dX2_ticksOf_34 (by decide) ?_
      refine lv_isub hx hb dX2_ticksOf_35 ?_
      refine lv_iload_n hx hb dX2_ticksOf_36 rfl (lv_at hl 0 rfl) ?_
      obtain ⟨z6, gz6, h⟩ := oB_out h
      have gnz6 := (nz_in gz6).1
      refine lv_idiv hx hb dX2_ticksOf_37 gnz6 ?_
      obtain rfl := Option.some.inj h
      exact r_iret S hr hlocks hw dX2_ticksOf_38
    · have h := if_f c5 h
      refine lv_iconst (v := (-1)) hx hb dX2_ticksOf_29 (by decide) ?_
      obtain rfl := Option.some.inj h
      exact r_iret S hr hlocks hw dX2_ticksOf_30


theorem mf18_X2_soonest : Cond.fieldLink RX2 18 "GasVoyages$Chasers" "number" "I" ∈ wsX2_soonest := by decide +kernel
set_option maxRecDepth 20000 in
theorem iw2_X2_soonest : ∀ w ∈ u_ws RX2 TX2 6, w ∈ wsX2_soonest := by decide +kernel
def f_X2_soonest_38 (kn6 : St → Int32 → Int32 → Int32 → Option Int32) (σ : St) (x3 : Int32) (x4 : Int32) : Option Int32 := kn6 σ x3 x4 (x3 + 1)
set_option maxRecDepth 100000 in
set_option maxHeartbeats 4000000 in
theorem w_X2_soonest_38 {p : Program} {l : Launch} {e : Env} {s : State} {m : MethodId} {args : Array Value} {below : List Frame} {meth : Method} {c : Code} {G : Gp} {A : Nat → Prop} (S : CallFix p m c cX2_soonest 5 s args wsX2_soonest RX2) (hr : meth.sig.returnType = (some .int)) (hlocks : meth.locks = false) (hE : Ev G A s) {kn6 : St → Int32 → Int32 → Int32 → Option Int32} (hkn6 : ∀ (σ : St) (x1 : Int32) (x2 : Int32) (x3 : Int32) (r : Int32) (_ : Unit), kn6 σ x1 x2 x3 = some r → ∀ (H : Heap) (locs : List Loc) (ls : Array Slot), Ww G A σ s H locs → lv_has ls 5 [(0, .ref (ad G 28)), (1, .int x1), (2, .int x2), (3, .int x3)] → W p l e (rmd 1) s m args below meth c H locs 0 0 (Qi below args s G A r σ) (F0 m 6 ls [])) (σ : St) (x3 : Int32) (x4 : Int32) {r : Int32} (h : f_X2_soonest_38  kn6 σ x3 x4 = some r) {H : Heap} {locs : List Loc} {ls : Array Slot} (hw : Ww G A σ s H locs) (hl : lv_has ls 5 [(0, .ref (ad G 28)), (3, .int x3), (4, .int x4)]) : W p l e (rmd 1) s m args below meth c H locs 0 0 (Qi below args s G A r σ) (F0 m 38 ls []) := by
  obtain ⟨hx, hb, hml, hown, hts⟩ := id S
  unfold f_X2_soonest_38 at h
  refine lv_iload_n hx hb dX2_soonest_38 rfl (lv_at hl 1 rfl) ?_
  refine lv_istore_n (lv' := [(1, .int x3), (0, .ref (ad G 28)), (3, .int x3), (4, .int x4)]) hx hb dX2_soonest_39 rfl hl (by decide) rfl (fun ls hl => ?_)
  refine lv_iload hx hb dX2_soonest_40 (lv_at hl 3 rfl) ?_
  refine lv_istore_n (lv' := [(2, .int x4), (1, .int x3), (0, .ref (ad G 28)), (3, .int x3), (4, .int x4)]) hx hb dX2_soonest_42 rfl hl (by decide) rfl (fun ls hl => ?_)
  refine lv_iinc (v := x3 + 1) (lv' := [(3, .int (x3 + 1)), (2, .int x4), (1, .int x3), (0, .ref (ad G 28)), (4, .int x4)]) hx hb dX2_soonest_43 hl (k := 3) rfl rfl (by decide) rfl (fun ls hl => ?_)
  refine lv_goto (tgt := 6) hx hb dX2_soonest_46 (by decide) ?_
  exact hkn6 σ x3 x4 (x3 + 1) _ () h _ _ _ hw (lv_sub hl [3, 2, 1, 0] rfl)

def f_X2_soonest_6 : Nat → St → Int32 → Int32 → Int32 → Option Int32
  | 0, _, _, _, _ => none
  | n + 1, σ, x1, x2, x3 => if (σ.1 28 3) ≤ x3 then (some x1) else (Option.bind (f_X2_ticksOf σ x3) fun v2 => if v2 = (-1) then (f_X2_soonest_6 n σ x1 x2 (x3 + 1)) else (if x1 = (-1) then (f_X2_soonest_38 (fun σ x1 x2 x3 => f_X2_soonest_6 n σ x1 x2 x3) σ x3 v2) else (if x2 ≤ v2 then (f_X2_soonest_6 n σ x1 x2 (x3 + 1)) else (f_X2_soonest_38 (fun σ x1 x2 x3 => f_X2_soonest_6 n σ x1 x2 x3) σ x3 v2))))
set_option maxRecDepth 100000 in
set_option maxHeartbeats 4000000 in
theorem w_X2_soonest_6 {p : Program} {l : Launch} {e : Env} {s : State} {m : MethodId} {args : Array Value} {below : List Frame} {meth : Method} {c : Code} {G : Gp} {A : Nat → Prop} (S : CallFix p m c cX2_soonest 5 s args wsX2_soonest RX2) (hr : meth.sig.returnType = (some .int)) (hlocks : meth.locks = false) (hE : Ev G A s) (n : Nat) (σ : St) (x1 : Int32) (x2 : Int32) (x3 : Int32) {r : Int32} (h : f_X2_soonest_6   n σ x1 x2 x3 = some r) {H : Heap} {locs : List Loc} {ls : Array Slot} (hw : Ww G A σ s H locs) (hl : lv_has ls 5 [(0, .ref (ad G 28)), (1, .int x1), (2, .int x2), (3, .int x3)]) : W p l e (rmd 1) s m args below meth c H locs 0 0 (Qi below args s G A r σ) (F0 m 6 ls []) := by
  obtain ⟨hx, hb, hml, hown, hts⟩ := id S
  induction n generalizing σ x1 x2 x3 r  H locs ls with
  | zero => cases h
  | succ n ih =>
    unfold f_X2_soonest_6 at h
    refine lv_iload_n hx hb dX2_soonest_6 rfl (lv_at hl 3 rfl) ?_
    refine lv_aload_n hx hb dX2_soonest_7 rfl (lv_at hl 0 rfl) ?_
    refine r_gi S hE hw 3 iw2_X2_soonest rfl rfl (by decide) (hts _ mf18_X2_soonest) dX2_soonest_8 ?_
    refine lv_icmp_ge (tgt := 49) hx hb dX2_soonest_11 (by decide) (fun c1 => ?_) (fun c1 => ?_)
    · have h := if_t c1 h
      refine lv_iload_n hx hb dX2_soonest_49 rfl (lv_at hl 1 rfl) ?_
      obtain rfl := Option.some.inj h
      exact r_iret S hr hlocks hw dX2_soonest_50
    · have h := if_f c1 h
      refine lv_aload_n hx hb dX2_soonest_14 rfl (lv_at hl 0 rfl) ?_
      refine lv_iload_n hx hb dX2_soonest_15 rfl (lv_at hl 3 rfl) ?_
      obtain ⟨v2, gv2, h⟩ := oB_out h
      refine r_ci (r_runV (k := 28) (ci := 2) (As := [.int x3]) (rest := []) S hE hw (c_X2_ticksOf  l G A σ x3 gv2) (cwV 1 hts gX2_soonest_X2_ticksOf rfl rfl rfl (by decide +kernel) ⟨Nat.le_of_ble_eq_true rfl, Nat.le_of_ble_eq_true rfl⟩) rfl rfl (by decide) rfl hl.1 rfl (Nat.le_of_ble_eq_true rfl) ⟨Nat.zero_le _, Nat.zero_le _⟩ dX2_soonest_16) hw (fun H locs hw => ?_)
      refine lv_istore (lv' := [(4, .int v2), (0, .ref (ad G 28)), (1, .int x1), (2, .int x2), (3, .int x3)]) hx hb dX2_soonest_19 hl (by decide) rfl (fun ls hl => ?_)
      refine lv_iload hx hb dX2_soonest_21 (lv_at hl 0 rfl) ?_
      refine lv_iconst (v := (-1)) hx hb dX2_soonest_23 (by decide) ?_
      refine lv_icmp_eq (tgt := 43) hx hb dX2_soonest_24 (by decide) (fun c3 => ?_) (fun c3 => ?_)
      · have h := if_t c3 h
        refine lv_iinc (v := x3 + 1) (lv' := [(3, .int (x3 + 1)), (4, .int v2), (0, .ref (ad G 28)), (1, .int x1), (2, .int x2)]) hx hb dX2_soonest_43 hl (k := 4) rfl rfl (by decide) rfl (fun ls hl => ?_)
        refine lv_goto (tgt := 6) hx hb dX2_soonest_46 (by decide) ?_
        exact ih σ x1 x2 (x3 + 1) h hw (lv_sub hl [2, 3, 4, 0] rfl)
      · have h := if_f c3 h
        refine lv_iload_n hx hb dX2_soonest_27 rfl (lv_at hl 2 rfl) ?_
        refine lv_iconst (v := (-1)) hx hb dX2_soonest_28 (by decide) ?_
        refine lv_icmp_eq (tgt := 38) hx hb dX2_soonest_29 (by decide) (fun c4 => ?_) (fun c4 => ?_)
        · have h := if_t c4 h
          exact w_X2_soonest_38   S hr hlocks hE (fun σ x1 x2 x3  _ _ h _ _ _ hw hl => ih σ x1 x2 x3  h hw hl)  σ x3 v2 h hw (lv_sub hl [1, 4, 0] rfl)
        · have h := if_f c4 h
          refine lv_iload hx hb dX2_soonest_32 (lv_at hl 0 rfl) ?_
          refine lv_iload_n hx hb dX2_soonest_34 rfl (lv_at hl 3 rfl) ?_
          refine lv_icmp_ge (tgt := 43) hx hb dX2_soonest_35 (by decide) (fun c5 => ?_) (fun c5 => ?_)
          · have h := if_t c5 h
            refine lv_iinc (v := x3 + 1) (lv' := [(3, .int (x3 + 1)), (4, .int v2), (0, .ref (ad G 28)), (1, .int x1), (2, .int x2)]) hx hb dX2_soonest_43 hl (k := 4) rfl rfl (by decide) rfl (fun ls hl => ?_)
            refine lv_goto (tgt := 6) hx hb dX2_soonest_46 (by decide) ?_
            exact ih σ x1 x2 (x3 + 1) h hw (lv_sub hl [2, 3, 4, 0] rfl)
          · have h := if_f c5 h
            exact w_X2_soonest_38   S hr hlocks hE (fun σ x1 x2 x3  _ _ h _ _ _ hw hl => ih σ x1 x2 x3  h hw hl)  σ x3 v2 h hw (lv_sub hl [1, 4, 0] rfl)

def f_X2_soonest (σ : St) : Option Int32 := f_X2_soonest_6 10000 σ (-1) (-1) 0
set_option maxRecDepth 100000 in
set_option maxHeartbeats 4000000 in
theorem c_X2_soonest (l : Launch) (G : Gp) (A : Nat → Prop) (σ : St) {r : Int32} (h : f_X2_soonest σ  = some r) : Ki l yX2_soonest wsX2_soonest 1 G A [.ref (ad G 28)] σ r σ := by
  unfold f_X2_soonest at h
  refine r_start (ws := wsX2_soonest) (d := 1) (by decide) rfl [.ref (ad G 28)] (Nat.le_of_ble_eq_true rfl) ?_
  intro p e s m below meth c S hr hlocks hE hw ls hl
  have hl : lv_has ls 5 [(0, .ref (ad G 28))] := hl
  obtain ⟨hx, hb, hml, hown, hts⟩ := id S
  refine lv_iconst (v := (-1)) hx hb dX2_soonest_0 (by decide) ?_
  refine lv_istore_n (lv' := [(1, .int (-1)), (0, .ref (ad G 28))]) hx hb dX2_soonest_1 rfl hl (by decide) rfl (fun ls hl => ?_)
  refine lv_iconst (v := (-1)) hx hb dX2_soonest_2 (by decide) ?_
  refine lv_istore_n (lv' := [(2, .int (-1)), (1, .int (-1)), (0, .ref (ad G 28))]) hx hb dX2_soonest_3 rfl hl (by decide) rfl (fun ls hl => ?_)
  refine lv_iconst (v := 0) hx hb dX2_soonest_4 (by decide) ?_
  refine lv_istore_n (lv' := [(3, .int 0), (2, .int (-1)), (1, .int (-1)), (0, .ref (ad G 28))]) hx hb dX2_soonest_5 rfl hl (by decide) rfl (fun ls hl => ?_)
  exact w_X2_soonest_6   S hr hlocks hE  10000 σ (-1) (-1) 0 h hw (lv_sub hl [3, 2, 1, 0] rfl)


def f_X9_placeOf (p0 : Int32) (p1 : Int32) : Int32 := (p0 * 8) + p1
set_option maxRecDepth 100000 in
set_option maxHeartbeats 4000000 in
theorem c_X9_placeOf (l : Launch) (G : Gp) (A : Nat → Prop) (σ : St) (p0 : Int32) (p1 : Int32) : Ki l yX9_placeOf wsX9_placeOf 0 G A [.int p0, .int p1] σ (f_X9_placeOf p0 p1) σ := by
  obtain ⟨r, h⟩ : ∃ r, f_X9_placeOf p0 p1 = r := ⟨_, rfl⟩
  rw [h]
  unfold f_X9_placeOf at h
  refine r_start (ws := wsX9_placeOf) (d := 0) (by decide) rfl [.int p0, .int p1] (Nat.le_of_ble_eq_true rfl) ?_
  intro p e s m below meth c S hr hlocks hE hw ls hl
  have hl : lv_has ls 2 [(0, .int p0), (1, .int p1)] := hl
  obtain ⟨hx, hb, hml, hown, hts⟩ := id S
  refine lv_iload_n hx hb dX9_placeOf_0 rfl (lv_at hl 0 rfl) ?_
  refine lv_bipush (v := 8) hx hb dX9_placeOf_1 (by decide) ?_
  refine lv_imul hx hb dX9_placeOf_3 ?_
  refine lv_iload_n hx hb dX9_placeOf_4 rfl (lv_at hl 1 rfl) ?_
  refine lv_iadd hx hb dX9_placeOf_5 ?_
  subst h
  exact r_iret S hr hlocks hw dX9_placeOf_6

