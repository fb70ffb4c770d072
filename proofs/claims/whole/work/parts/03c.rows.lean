theorem mf37_X6_best : Cond.fieldLink RX6 37 "GasVoyages$Planner" "length" "I" ∈ wsX6_best := by decide +kernel
set_option maxRecDepth 20000 in
theorem iw6_X6_best : ∀ w ∈ u_ws RX6 TX6 11, w ∈ wsX6_best := by decide +kernel
theorem mf40_X6_best : Cond.fieldLink RX6 40 "GasVoyages$Planner" "dose" "I" ∈ wsX6_best := by decide +kernel
theorem mf43_X6_best : Cond.fieldLink RX6 43 "GasVoyages$Planner" "aim" "I" ∈ wsX6_best := by decide +kernel
theorem mf46_X6_best : Cond.fieldLink RX6 46 "GasVoyages$Planner" "near" "Z" ∈ wsX6_best := by decide +kernel
theorem mf50_X6_best : Cond.fieldLink RX6 50 "GasVoyages$Planner" "bestSquare" "I" ∈ wsX6_best := by decide +kernel
theorem mf11_X6_best : Cond.fieldLink RX6 11 "GasVoyages$Planner" "behind" "[LGasVoyages$Balloon;" ∈ wsX6_best := by decide +kernel
def f_X6_best (σ : St) (k1 : Nat) (p2 : Int32) (p3 : Int32) (p4 : Int32) (p5 : Int32) : Option (Int32 × St) := bT (up σ 15 6 p2) fun s1 => bT (up s1 15 7 p3) fun s2 => bT (up s2 15 8 p4) fun s3 => Option.bind (pZ s3 15 9 p5) fun s4 => bT (up s4 15 10 (-1)) fun s5 => Option.bind (inB 7 0) fun j6 => Option.bind (f_X1_copyOf s5 (33 + j6) k1) fun s8 => Option.bind (f_X6_tryFrom 8 s8 0) fun s9 => some (s9.1 15 10, s9)
set_option maxRecDepth 100000 in
set_option maxHeartbeats 4000000 in
theorem c_X6_best (l : Launch) (G : Gp) (A : Nat → Prop) (σ : St) (k1 : Nat) (p2 : Int32) (p3 : Int32) (p4 : Int32) (p5 : Int32) (hk1 : kd k1 = 1) {r : Int32} {σ' : St} (h : f_X6_best σ k1 p2 p3 p4 p5 = some (r, σ')) : Ki l yX6_best wsX6_best 14 G A [.ref (ad G 15), .ref (ad G k1), .int p2, .int p3, .int p4, .int p5] σ r σ' := by
  unfold f_X6_best at h
  refine r_start (ws := wsX6_best) (d := 14) (by decide) rfl [.ref (ad G 15), .ref (ad G k1), .int p2, .int p3, .int p4, .int p5] (Nat.le_of_ble_eq_true rfl) ?_
  intro p e s m below meth c S hr hlocks hE hw ls hl
  have hl : lv_has ls 6 [(0, .ref (ad G 15)), (1, .ref (ad G k1)), (2, .int p2), (3, .int p3), (4, .int p4), (5, .int p5)] := hl
  obtain ⟨hx, hb, hml, hown, hts⟩ := id S
  refine lv_aload_n hx hb dX6_best_0 rfl (lv_at hl 0 rfl) ?_
  refine lv_iload_n hx hb dX6_best_1 rfl (lv_at hl 2 rfl) ?_
  obtain ⟨s1, gs1, h⟩ := bT_out h
  refine r_pi S hE hw 6 p2 iw6_X6_best tyX6 tyX6_ok nmX6 rfl rfl (by decide) (hts _ mf37_X6_best) rfl (ty := .int) (by decide +kernel) rfl rfl dX6_best_2 (fun H locs hw => ?_)
  rw [← gs1] at hw
  refine lv_aload_n hx hb dX6_best_5 rfl (lv_at hl 0 rfl) ?_
  refine lv_iload_n hx hb dX6_best_6 rfl (lv_at hl 3 rfl) ?_
  obtain ⟨s2, gs2, h⟩ := bT_out h
  refine r_pi S hE hw 7 p3 iw6_X6_best tyX6 tyX6_ok nmX6 rfl rfl (by decide) (hts _ mf40_X6_best) rfl (ty := .int) (by decide +kernel) rfl rfl dX6_best_7 (fun H locs hw => ?_)
  rw [← gs2] at hw
  refine lv_aload_n hx hb dX6_best_10 rfl (lv_at hl 0 rfl) ?_
  refine lv_iload hx hb dX6_best_11 (lv_at hl 4 rfl) ?_
  obtain ⟨s3, gs3, h⟩ := bT_out h
  refine r_pi S hE hw 8 p4 iw6_X6_best tyX6 tyX6_ok nmX6 rfl rfl (by decide) (hts _ mf43_X6_best) rfl (ty := .int) (by decide +kernel) rfl rfl dX6_best_13 (fun H locs hw => ?_)
  rw [← gs3] at hw
  refine lv_aload_n hx hb dX6_best_16 rfl (lv_at hl 0 rfl) ?_
  refine lv_iload hx hb dX6_best_17 (lv_at hl 5 rfl) ?_
  obtain ⟨s4, gs4, h⟩ := oB_out h
  refine r_pi S hE hw 9 p5 iw6_X6_best tyX6 tyX6_ok nmX6 rfl rfl (by decide) (hts _ mf46_X6_best) rfl (ty := .boolean) (by decide +kernel) (bl_nar (pZ_in gs4).1) (bl_fit (pZ_in gs4).1) dX6_best_19 (fun H locs hw => ?_)
  rw [(pZ_in gs4).2] at hw
  refine lv_aload_n hx hb dX6_best_22 rfl (lv_at hl 0 rfl) ?_
  refine lv_iconst (v := (-1)) hx hb dX6_best_23 (by decide) ?_
  obtain ⟨s5, gs5, h⟩ := bT_out h
  refine r_pi S hE hw 10 (-1) iw6_X6_best tyX6 tyX6_ok nmX6 rfl rfl (by decide) (hts _ mf50_X6_best) rfl (ty := .int) (by decide +kernel) rfl rfl dX6_best_24 (fun H locs hw => ?_)
  rw [← gs5] at hw
  refine lv_aload_n hx hb dX6_best_27 rfl (lv_at hl 0 rfl) ?_
  refine r_gr S hE hw 2 16 iw6_X6_best rfl rfl (by decide) rfl (hts _ mf11_X6_best) dX6_best_28 ?_
  refine lv_iconst (v := 0) hx hb dX6_best_31 (by decide) ?_
  obtain ⟨j6, gj6, h⟩ := oB_out h
  refine r_rb S hE hw ⟨rfl, rfl⟩ gj6 dX6_best_32 ?_
  have hf7 := kd_bh (inB_in gj6).2.2
  refine lv_aload_n hx hb dX6_best_33 rfl (lv_at hl 1 rfl) ?_
  obtain ⟨s8, gs8, h⟩ := oB_out h
  refine r_cv (r_runV (k := 33 + j6) (ci := 1) (As := [.ref (ad G k1)]) (rest := []) S hE hw (c_X1_copyOf  l G A s5 (33 + j6) k1 hf7 hk1 gs8) (cwV 1 hts gX6_best_X1_copyOf rfl rfl rfl (by decide +kernel) ⟨Nat.le_of_ble_eq_true rfl, Nat.le_of_ble_eq_true rfl⟩) hf7 rfl (by decide) rfl hl.1 rfl (Nat.le_of_ble_eq_true rfl) ⟨Nat.zero_le _, Nat.zero_le _⟩ dX6_best_34) hw (fun H locs hw => ?_)
  refine lv_aload_n hx hb dX6_best_37 rfl (lv_at hl 0 rfl) ?_
  refine lv_iconst (v := 0) hx hb dX6_best_38 (by decide) ?_
  obtain ⟨s9, gs9, h⟩ := oB_out h
  refine r_cv (r_runV (k := 15) (ci := 6) (As := [.int 0]) (rest := []) S hE hw (c_X6_tryFrom 8 l G A s8 0 gs9) (cwV 1 hts gX6_best_X6_tryFrom rfl rfl rfl (by decide +kernel) ⟨Nat.le_of_ble_eq_true rfl, Nat.le_of_ble_eq_true rfl⟩) rfl rfl (by decide) rfl hl.1 rfl (Nat.le_of_ble_eq_true rfl) ⟨Nat.zero_le _, Nat.zero_le _⟩ dX6_best_39) hw (fun H locs hw => ?_)
  refine lv_aload_n hx hb dX6_best_42 rfl (lv_at hl 0 rfl) ?_
  refine r_gi S hE hw 10 iw6_X6_best rfl rfl (by decide) (hts _ mf50_X6_best) dX6_best_43 ?_
  obtain ⟨rfl, rfl⟩ := rt2 h
  exact r_iret S hr hlocks hw dX6_best_46


def f_X9_cellOfPlace (p0 : Int32) : Int32 := p0 / 8
set_option maxRecDepth 100000 in
set_option maxHeartbeats 4000000 in
theorem c_X9_cellOfPlace (l : Launch) (G : Gp) (A : Nat → Prop) (σ : St) (p0 : Int32) : Ki l yX9_cellOfPlace wsX9_cellOfPlace 0 G A [.int p0] σ (f_X9_cellOfPlace p0) σ := by
  obtain ⟨r, h⟩ : ∃ r, f_X9_cellOfPlace p0 = r := ⟨_, rfl⟩
  rw [h]
  unfold f_X9_cellOfPlace at h
  refine r_start (ws := wsX9_cellOfPlace) (d := 0) (by decide) rfl [.int p0] (Nat.le_of_ble_eq_true rfl) ?_
  intro p e s m below meth c S hr hlocks hE hw ls hl
  have hl : lv_has ls 1 [(0, .int p0)] := hl
  obtain ⟨hx, hb, hml, hown, hts⟩ := id S
  refine lv_iload_n hx hb dX9_cellOfPlace_0 rfl (lv_at hl 0 rfl) ?_
  refine lv_bipush (v := 8) hx hb dX9_cellOfPlace_1 (by decide) ?_
  refine lv_idiv hx hb dX9_cellOfPlace_3 (by decide) ?_
  subst h
  exact r_iret S hr hlocks hw dX9_cellOfPlace_4


theorem mf21_X7_enter : Cond.fieldLink RX7 21 "GasVoyages$WayCounter" "land" "LGasVoyages$Land;" ∈ wsX7_enter := by decide +kernel
set_option maxRecDepth 20000 in
theorem iw7_X7_enter : ∀ w ∈ u_ws RX7 TX7 6, w ∈ wsX7_enter := by decide +kernel
theorem mf92_X7_enter : Cond.fieldLink RX7 92 "GasVoyages$Land" "kinds" "[I" ∈ wsX7_enter := by decide +kernel
set_option maxRecDepth 20000 in
theorem iw5_X7_enter : ∀ w ∈ u_ws RX5 TX5 3, w ∈ wsX7_enter := by decide +kernel
theorem mi9_X7_enter : Cond.initialized RX9 ∈ wsX7_enter := by decide +kernel
theorem mtX9_cellOfPlace_X7_enter : Cond.static yX9_cellOfPlace ∈ wsX7_enter := by decide +kernel
def f_X7_enter (σ : St) (k1 : Nat) (p2 : Int32) (p3 : Int32) (p4 : Int32) : Option St := Option.bind (aL σ 2 576 (f_X9_cellOfPlace p2)) fun v1 => if v1 = 2 then (Option.bind (f_X4_add σ k1 p2 0 (p3 + p4)) fun s4 => some s4) else (Option.bind (f_X4_add σ k1 p2 p3 p4) fun s3 => some s3)
set_option maxRecDepth 100000 in
set_option maxHeartbeats 4000000 in
theorem c_X7_enter (l : Launch) (G : Gp) (A : Nat → Prop) (σ : St) (k1 : Nat) (p2 : Int32) (p3 : Int32) (p4 : Int32) (hk1 : kd k1 = 4) {σ' : St} (h : f_X7_enter σ k1 p2 p3 p4 = some σ') : Kv l yX7_enter wsX7_enter 2 G A [.ref (ad G 19), .ref (ad G k1), .int p2, .int p3, .int p4] σ σ' := by
  unfold f_X7_enter at h
  refine r_start (ws := wsX7_enter) (d := 2) (by decide) rfl [.ref (ad G 19), .ref (ad G k1), .int p2, .int p3, .int p4] (Nat.le_of_ble_eq_true rfl) ?_
  intro p e s m below meth c S hr hlocks hE hw ls hl
  have hl : lv_has ls 5 [(0, .ref (ad G 19)), (1, .ref (ad G k1)), (2, .int p2), (3, .int p3), (4, .int p4)] := hl
  obtain ⟨hx, hb, hml, hown, hts⟩ := id S
  refine lv_aload_n hx hb dX7_enter_0 rfl (lv_at hl 0 rfl) ?_
  refine r_gr S hE hw 0 1 iw7_X7_enter rfl rfl (by decide) rfl (hts _ mf21_X7_enter) dX7_enter_1 ?_
  refine r_gr S hE hw 2 2 iw5_X7_enter rfl rfl (by decide) rfl (hts _ mf92_X7_enter) dX7_enter_4 ?_
  refine lv_iload_n hx hb dX7_enter_7 rfl (lv_at hl 2 rfl) ?_
  refine r_ci (r_runN (As := [.int p2]) (rest := [.ref (ad G 2)]) S hE hw (c_X9_cellOfPlace  l G A σ p2) (va_cnB 1 hts gX7_enter_X9_cellOfPlace_n61 rfl rfl rfl (hE.2.2.1 (RX7, 61, yX9_cellOfPlace) (by decide +kernel)) (hts _ mi9_X7_enter) (by decide +kernel) ⟨Nat.le_of_ble_eq_true rfl, Nat.le_of_ble_eq_true rfl⟩) (hts _ mtX9_cellOfPlace_X7_enter) rfl hl.1 rfl (Nat.le_of_ble_eq_true rfl) ⟨Nat.zero_le _, Nat.zero_le _⟩ dX7_enter_8) hw (fun H locs hw => ?_)
  obtain ⟨v1, gv1, h⟩ := oB_out h
  refine r_al S hE hw rfl rfl gv1 dX7_enter_11 ?_
  refine lv_iconst (v := 2) hx hb dX7_enter_12 (by decide) ?_
  refine lv_icmp_ne (tgt := 29) hx hb dX7_enter_13 (by decide) (fun c2 => ?_) (fun c2 => ?_)
  · have h := if_f c2 h
    refine lv_aload_n hx hb dX7_enter_29 rfl (lv_at hl 1 rfl) ?_
    refine lv_iload_n hx hb dX7_enter_30 rfl (lv_at hl 2 rfl) ?_
    refine lv_iload_n hx hb dX7_enter_31 rfl (lv_at hl 3 rfl) ?_
    refine lv_iload hx hb dX7_enter_32 (lv_at hl 4 rfl) ?_
    obtain ⟨s3, gs3, h⟩ := oB_out h
    refine r_cv (r_runV (k := k1) (ci := 4) (As := [.int p2, .int p3, .int p4]) (rest := []) S hE hw (c_X4_add  l G A σ k1 p2 p3 p4 hk1 gs3) (cwV 3 hts gX7_enter_X4_add rfl rfl rfl (by decide +kernel) ⟨Nat.le_of_ble_eq_true rfl, Nat.le_of_ble_eq_true rfl⟩) hk1 rfl (by decide) rfl hl.1 rfl (Nat.le_of_ble_eq_true rfl) ⟨Nat.zero_le _, Nat.zero_le _⟩ dX7_enter_34) hw (fun H locs hw => ?_)
    obtain rfl := Option.some.inj h
    exact r_vret S hr hlocks hw dX7_enter_37
  · have h := if_t c2 h
    refine lv_aload_n hx hb dX7_enter_16 rfl (lv_at hl 1 rfl) ?_
    refine lv_iload_n hx hb dX7_enter_17 rfl (lv_at hl 2 rfl) ?_
    refine lv_iconst (v := 0) hx hb dX7_enter_18 (by decide) ?_
    refine lv_iload_n hx hb dX7_enter_19 rfl (lv_at hl 3 rfl) ?_
    refine lv_iload hx hb dX7_enter_20 (lv_at hl 4 rfl) ?_
    refine lv_iadd hx hb dX7_enter_22 ?_
    obtain ⟨s4, gs4, h⟩ := oB_out h
    refine r_cv (r_runV (k := k1) (ci := 4) (As := [.int p2, .int 0, .int (p3 + p4)]) (rest := []) S hE hw (c_X4_add  l G A σ k1 p2 0 (p3 + p4) hk1 gs4) (cwV 3 hts gX7_enter_X4_add rfl rfl rfl (by decide +kernel) ⟨Nat.le_of_ble_eq_true rfl, Nat.le_of_ble_eq_true rfl⟩) hk1 rfl (by decide) rfl hl.1 rfl (Nat.le_of_ble_eq_true rfl) ⟨Nat.zero_le _, Nat.zero_le _⟩ dX7_enter_23) hw (fun H locs hw => ?_)
    refine lv_goto (tgt := 37) hx hb dX7_enter_26 (by decide) ?_
    obtain rfl := Option.some.inj h
    exact r_vret S hr hlocks hw dX7_enter_37


def f_X9_levelOfPlace (p0 : Int32) : Int32 := p0 - p0 / 8 * 8
set_option maxRecDepth 100000 in
set_option maxHeartbeats 4000000 in
theorem c_X9_levelOfPlace (l : Launch) (G : Gp) (A : Nat → Prop) (σ : St) (p0 : Int32) : Ki l yX9_levelOfPlace wsX9_levelOfPlace 0 G A [.int p0] σ (f_X9_levelOfPlace p0) σ := by
  obtain ⟨r, h⟩ : ∃ r, f_X9_levelOfPlace p0 = r := ⟨_, rfl⟩
  rw [h]
  unfold f_X9_levelOfPlace at h
  refine r_start (ws := wsX9_levelOfPlace) (d := 0) (by decide) rfl [.int p0] (Nat.le_of_ble_eq_true rfl) ?_
  intro p e s m below meth c S hr hlocks hE hw ls hl
  have hl : lv_has ls 1 [(0, .int p0)] := hl
  obtain ⟨hx, hb, hml, hown, hts⟩ := id S
  refine lv_iload_n hx hb dX9_levelOfPlace_0 rfl (lv_at hl 0 rfl) ?_
  refine lv_bipush (v := 8) hx hb dX9_levelOfPlace_1 (by decide) ?_
  refine lv_irem hx hb dX9_levelOfPlace_3 (by decide) ?_
  subst h
  exact r_iret S hr hlocks hw dX9_levelOfPlace_4


theorem mi9_X7_spread : Cond.initialized RX9 ∈ wsX7_spread := by decide +kernel
theorem mtX9_levelOfPlace_X7_spread : Cond.static yX9_levelOfPlace ∈ wsX7_spread := by decide +kernel
theorem mtX9_cellOfPlace_X7_spread : Cond.static yX9_cellOfPlace ∈ wsX7_spread := by decide +kernel
theorem mf64_X7_spread : Cond.fieldLink RX7 64 "GasVoyages$Flight" "startTick" "I" ∈ wsX7_spread := by decide +kernel
set_option maxRecDepth 20000 in
theorem iw3_X7_spread : ∀ w ∈ u_ws RX3 TX3 7, w ∈ wsX7_spread := by decide +kernel
theorem ml67_X7_spread : Cond.methodLink RX7 67 Lib.Math.min.name ∈ wsX7_spread := by decide +kernel
theorem msmin_X7_spread : Cond.static Lib.Math.min.name ∈ wsX7_spread := by decide +kernel
theorem miM_X7_spread : Cond.initialized "java/lang/Math" ∈ wsX7_spread := by decide +kernel
theorem mkmin_X7_spread : Cond.code Lib.Math.min.name Lib.Math.min.code 2 (some .int) ∈ wsX7_spread := by decide +kernel
theorem mf25_X7_spread : Cond.fieldLink RX7 25 "GasVoyages$WayCounter" "winds" "LGasVoyages$Winds;" ∈ wsX7_spread := by decide +kernel
set_option maxRecDepth 20000 in
theorem iw7_X7_spread : ∀ w ∈ u_ws RX7 TX7 6, w ∈ wsX7_spread := by decide +kernel
theorem mf21_X7_spread : Cond.fieldLink RX7 21 "GasVoyages$WayCounter" "land" "LGasVoyages$Land;" ∈ wsX7_spread := by decide +kernel
theorem mtX9_placeOf_X7_spread : Cond.static yX9_placeOf ∈ wsX7_spread := by decide +kernel
theorem mf82_X7_spread : Cond.fieldLink RX7 82 "GasVoyages$Flight" "lost" "[Z" ∈ wsX7_spread := by decide +kernel
theorem mf32_X7_spread : Cond.fieldLink RX7 32 "GasVoyages$Flight" "places" "[I" ∈ wsX7_spread := by decide +kernel
theorem mf18_X7_spread : Cond.fieldLink RX7 18 "GasVoyages$WayCounter" "there" "LGasVoyages$Front;" ∈ wsX7_spread := by decide +kernel
theorem mf12_X7_spread : Cond.fieldLink RX7 12 "GasVoyages$WayCounter" "here" "LGasVoyages$Front;" ∈ wsX7_spread := by decide +kernel
theorem mf86_X7_spread : Cond.fieldLink RX7 86 "GasVoyages$Front" "clean" "[I" ∈ wsX7_spread := by decide +kernel
set_option maxRecDepth 20000 in
theorem iw4_X7_spread : ∀ w ∈ u_ws RX4 TX4 4, w ∈ wsX7_spread := by decide +kernel
theorem mf89_X7_spread : Cond.fieldLink RX7 89 "GasVoyages$Front" "broken" "[I" ∈ wsX7_spread := by decide +kernel
def f_X7_spread_109 (k2 : Nat) (kn48 : St → Int32 → Int32 → Int32 → Int32 → Int32 → Int32 → Option St) (σ : St) (x1 : Int32) (x3 : Int32) (x5 : Int32) (x6 : Int32) (x7 : Int32) (x8 : Int32) (x9 : Int32) : Option St := Option.bind (aL σ (σ.2.1 + 2) 4608 x1) fun v3 => Option.bind (aL σ (σ.2.1 + 3) 4608 x1) fun v5 => Option.bind (f_X7_enter σ σ.2.2 x9 v3 v5) fun s6 => kn48 s6 x1 x3 x5 x6 x7 (x8 + 1)
set_option maxRecDepth 100000 in
set_option maxHeartbeats 4000000 in
theorem w_X7_spread_109 {p : Program} {l : Launch} {e : Env} {s : State} {m : MethodId} {args : Array Value} {below : List Frame} {meth : Method} {c : Code} {G : Gp} {A : Nat → Prop} (k2 : Nat) (hk2 : kd k2 = 3) (S : CallFix p m c cX7_spread 10 s args wsX7_spread RX7) (hr : meth.sig.returnType = none) (hlocks : meth.locks = false) (hE : Ev G A s) {kn48 : St → Int32 → Int32 → Int32 → Int32 → Int32 → Int32 → Option St} (hkn48 : ∀ (σ : St) (x1 : Int32) (x3 : Int32) (x5 : Int32) (x6 : Int32) (x7 : Int32) (x8 : Int32) (_ : Unit) (σ' : St), kn48 σ x1 x3 x5 x6 x7 x8 = some σ' → ∀ (H : Heap) (locs : List Loc) (ls : Array Slot), Ww G A σ s H locs → lv_has ls 10 [(0, .ref (ad G 19)), (1, .int x1), (2, .ref (ad G k2)), (3, .int x3), (5, .int x5), (6, .int x6), (7, .int x7), (8, .int x8)] → W p l e (rmd 4) s m args below meth c H locs 0 0 (Qv below args s G A σ') (F0 m 48 ls [])) (σ : St) (x1 : Int32) (x3 : Int32) (x5 : Int32) (x6 : Int32) (x7 : Int32) (x8 : Int32) (x9 : Int32) {σ' : St} (h : f_X7_spread_109 k2 kn48 σ x1 x3 x5 x6 x7 x8 x9 = some σ') {H : Heap} {locs : List Loc} {ls : Array Slot} (hw : Ww G A σ s H locs) (hl : lv_has ls 10 [(0, .ref (ad G 19)), (1, .int x1), (2, .ref (ad G k2)), (3, .int x3), (5, .int x5), (6, .int x6), (7, .int x7), (8, .int x8), (9, .int x9)]) : W p l e (rmd 4) s m args below meth c H locs 0 0 (Qv below args s G A σ') (F0 m 109 ls []) := by
  obtain ⟨hx, hb, hml, hown, hts⟩ := id S
  unfold f_X7_spread_109 at h
  refine lv_aload_n hx hb dX7_spread_109 rfl (lv_at hl 0 rfl) ?_
  refine lv_aload_n hx hb dX7_spread_110 rfl (lv_at hl 0 rfl) ?_
  have hf1 : kd σ.2.2 = 4 := hw.2.2.2.2
  refine r_gr S hE hw 3 σ.2.2 iw7_X7_spread rfl rfl (by decide) rfl (hts _ mf18_X7_spread) dX7_spread_111 ?_
  refine lv_iload hx hb dX7_spread_114 (lv_at hl 8 rfl) ?_
  refine lv_aload_n hx hb dX7_spread_116 rfl (lv_at hl 0 rfl) ?_
  have hf2 : kd σ.2.1 = 4 := hw.2.2.2.1
  refine r_gr S hE hw 2 σ.2.1 iw7_X7_spread rfl rfl (by decide) rfl (hts _ mf12_X7_spread) dX7_spread_117 ?_
  refine r_gr S hE hw 1 (σ.2.1 + 2) iw4_X7_spread hf2 rfl (by decide) rfl (hts _ mf86_X7_spread) dX7_spread_120 ?_
  refine lv_iload_n hx hb dX7_spread_123 rfl (lv_at hl 1 rfl) ?_
  obtain ⟨v3, gv3, h⟩ := oB_out h
  refine r_al S hE hw (kr_c hf2) (kr_cl hf2) gv3 dX7_spread_124 ?_
  refine lv_aload_n hx hb dX7_spread_125 rfl (lv_at hl 0 rfl) ?_
  have hf4 : kd σ.2.1 = 4 := hw.2.2.2.1
  refine r_gr S hE hw 2 σ.2.1 iw7_X7_spread rfl rfl (by decide) rfl (hts _ mf12_X7_spread) dX7_spread_126 ?_
  refine r_gr S hE hw 2 (σ.2.1 + 3) iw4_X7_spread hf4 rfl (by decide) rfl (hts _ mf89_X7_spread) dX7_spread_129 ?_
  refine lv_iload_n hx hb dX7_spread_132 rfl (lv_at hl 1 rfl) ?_
  obtain ⟨v5, gv5, h⟩ := oB_out h
  refine r_al S hE hw (kr_b hf4) (kr_bl hf4) gv5 dX7_spread_133 ?_
  obtain ⟨s6, gs6, h⟩ := oB_out h
  refine r_cv (r_runV (k := 19) (ci := 7) (As := [.ref (ad G σ.2.2), .int x9, .int v3, .int v5]) (rest := []) S hE hw (c_X7_enter  l G A σ σ.2.2 x9 v3 v5 hf1 gs6) (cwV 4 hts gX7_spread_X7_enter rfl rfl rfl (by decide +kernel) ⟨Nat.le_of_ble_eq_true rfl, Nat.le_of_ble_eq_true rfl⟩) rfl rfl (by decide) rfl hl.1 rfl (Nat.le_of_ble_eq_true rfl) ⟨Nat.zero_le _, Nat.zero_le _⟩ dX7_spread_134) hw (fun H locs hw => ?_)
  refine lv_iinc (v := x8 + 1) (lv' := [(8, .int (x8 + 1)), (0, .ref (ad G 19)), (1, .int x1), (2, .ref (ad G k2)), (3, .int x3), (5, .int x5), (6, .int x6), (7, .int x7), (9, .int x9)]) hx hb dX7_spread_137 hl (k := 7) rfl rfl (by decide) rfl (fun ls hl => ?_)
  refine lv_goto (tgt := 48) hx hb dX7_spread_140 (by decide) ?_
  exact hkn48 s6 x1 x3 x5 x6 x7 (x8 + 1) () _ h _ _ _ hw (lv_sub hl [1, 2, 3, 4, 5, 6, 7, 0] rfl)

def f_X7_spread_82 (k2 : Nat) (kn48 : St → Int32 → Int32 → Int32 → Int32 → Int32 → Int32 → Option St) (σ : St) (x1 : Int32) (x3 : Int32) (x5 : Int32) (x6 : Int32) (x7 : Int32) (x8 : Int32) (y0 : Int32) : Option St := Option.bind (aL σ (k2 + 3) 60 x3) fun v1 => if v1 = 0 then (Option.bind (aL σ (k2 + 2) 60 x3) fun v3 => if v3 = (f_X9_placeOf y0 x8) then (f_X7_spread_109 k2 kn48 σ x1 x3 x5 x6 x7 x8 (f_X9_placeOf y0 x8)) else (kn48 σ x1 x3 x5 x6 x7 (x8 + 1))) else (f_X7_spread_109 k2 kn48 σ x1 x3 x5 x6 x7 x8 (f_X9_placeOf y0 x8))
set_option maxRecDepth 100000 in
set_option maxHeartbeats 4000000 in
theorem w_X7_spread_82 {p : Program} {l : Launch} {e : Env} {s : State} {m : MethodId} {args : Array Value} {below : List Frame} {meth : Method} {c : Code} {G : Gp} {A : Nat → Prop} (k2 : Nat) (hk2 : kd k2 = 3) (S : CallFix p m c cX7_spread 10 s args wsX7_spread RX7) (hr : meth.sig.returnType = none) (hlocks : meth.locks = false) (hE : Ev G A s) {kn48 : St → Int32 → Int32 → Int32 → Int32 → Int32 → Int32 → Option St} (hkn48 : ∀ (σ : St) (x1 : Int32) (x3 : Int32) (x5 : Int32) (x6 : Int32) (x7 : Int32) (x8 : Int32) (_ : Unit) (σ' : St), kn48 σ x1 x3 x5 x6 x7 x8 = some σ' → ∀ (H : Heap) (locs : List Loc) (ls : Array Slot), Ww G A σ s H locs → lv_has ls 10 [(0, .ref (ad G 19)), (1, .int x1), (2, .ref (ad G k2)), (3, .int x3), (5, .int x5), (6, .int x6), (7, .int x7), (8, .int x8)] → W p l e (rmd 4) s m args below meth c H locs 0 0 (Qv below args s G A σ') (F0 m 48 ls [])) (σ : St) (x1 : Int32) (x3 : Int32) (x5 : Int32) (x6 : Int32) (x7 : Int32) (x8 : Int32) (y0 : Int32) {σ' : St} (h : f_X7_spread_82 k2 kn48 σ x1 x3 x5 x6 x7 x8 y0 = some σ') {H : Heap} {locs : List Loc} {ls : Array Slot} (hw : Ww G A σ s H locs) (hl : lv_has ls 10 [(0, .ref (ad G 19)), (1, .int x1), (2, .ref (ad G k2)), (3, .int x3), (5, .int x5), (6, .int x6), (7, .int x7), (8, .int x8)]) : W p l e (rmd 4) s m args below meth c H locs 0 0 (Qv below args s G A σ') (F0 m 82 ls [.int y0]) := by
  obtain ⟨hx, hb, hml, hown, hts⟩ := id S
  unfold f_X7_spread_82 at h
  refine lv_iload hx hb dX7_spread_82 (lv_at hl 7 rfl) ?_
  refine r_ci (r_runN (As := [.int y0, .int x8]) (rest := []) S hE hw (c_X9_placeOf  l G A σ y0 x8) (va_cnB 2 hts gX7_spread_X9_placeOf_n79 rfl rfl rfl (hE.2.2.1 (RX7, 79, yX9_placeOf) (by decide +kernel)) (hts _ mi9_X7_spread) (by decide +kernel) ⟨Nat.le_of_ble_eq_true rfl, Nat.le_of_ble_eq_true rfl⟩) (hts _ mtX9_placeOf_X7_spread) rfl hl.1 rfl (Nat.le_of_ble_eq_true rfl) ⟨Nat.zero_le _, Nat.zero_le _⟩ dX7_spread_84) hw (fun H locs hw => ?_)
  refine lv_istore (lv' := [(9, .int (f_X9_placeOf y0 x8)), (0, .ref (ad G 19)), (1, .int x1), (2, .ref (ad G k2)), (3, .int x3), (5, .int x5), (6, .int x6), (7, .int x7), (8, .int x8)]) hx hb dX7_spread_87 hl (by decide) rfl (fun ls hl => ?_)
  refine lv_aload_n hx hb dX7_spread_89 rfl (lv_at hl 3 rfl) ?_
  refine r_gr S hE hw 2 (k2 + 3) iw3_X7_spread hk2 rfl (by decide) rfl (hts _ mf82_X7_spread) dX7_spread_90 ?_
  refine lv_iload_n hx hb dX7_spread_93 rfl (lv_at hl 4 rfl) ?_
  obtain ⟨v1, gv1, h⟩ := oB_out h
  refine r_zl S hE hw (kf_l hk2) (kf_ll hk2) gv1 dX7_spread_94 ?_
  refine lv_if_ne (tgt := 109) hx hb dX7_spread_95 (by decide) (fun c2 => ?_) (fun c2 => ?_)
  · have h := if_f c2 h
    exact w_X7_spread_109 k2 hk2 S hr hlocks hE hkn48  σ x1 x3 x5 x6 x7 x8 (f_X9_placeOf y0 x8) h hw (lv_sub hl [1, 2, 3, 4, 5, 6, 7, 8, 0] rfl)
  · have h := if_t c2 h
    refine lv_aload_n hx hb dX7_spread_98 rfl (lv_at hl 3 rfl) ?_
    refine r_gr S hE hw 1 (k2 + 2) iw3_X7_spread hk2 rfl (by decide) rfl (hts _ mf32_X7_spread) dX7_spread_99 ?_
    refine lv_iload_n hx hb dX7_spread_102 rfl (lv_at hl 4 rfl) ?_
    obtain ⟨v3, gv3, h⟩ := oB_out h
    refine r_al S hE hw (kf_p hk2) (kf_pl hk2) gv3 dX7_spread_103 ?_
    refine lv_iload hx hb dX7_spread_104 (lv_at hl 0 rfl) ?_
    refine lv_icmp_ne (tgt := 137) hx hb dX7_spread_106 (by decide) (fun c4 => ?_) (fun c4 => ?_)
    · have h := if_f c4 h
      refine lv_iinc (v := x8 + 1) (lv' := [(8, .int (x8 + 1)), (9, .int (f_X9_placeOf y0 x8)), (0, .ref (ad G 19)), (1, .int x1), (2, .ref (ad G k2)), (3, .int x3), (5, .int x5), (6, .int x6), (7, .int x7)]) hx hb dX7_spread_137 hl (k := 8) rfl rfl (by decide) rfl (fun ls hl => ?_)
      refine lv_goto (tgt := 48) hx hb dX7_spread_140 (by decide) ?_
      exact hkn48 σ x1 x3 x5 x6 x7 (x8 + 1) () _ h _ _ _ hw (lv_sub hl [2, 3, 4, 5, 6, 7, 8, 0] rfl)
    · have h := if_t c4 h
      exact w_X7_spread_109 k2 hk2 S hr hlocks hE hkn48  σ x1 x3 x5 x6 x7 x8 (f_X9_placeOf y0 x8) h hw (lv_sub hl [1, 2, 3, 4, 5, 6, 7, 8, 0] rfl)

def f_X7_spread_48 (k2 : Nat) : Nat → St → Int32 → Int32 → Int32 → Int32 → Int32 → Int32 → Option St
  | 0, _, _, _, _, _, _, _ => none
  | n + 1, σ, x1, x3, x5, x6, x7, x8 => if x7 < x8 then (some σ) else (if x8 = 0 then (f_X7_spread_82 k2 (fun σ x1 x3 x5 x6 x7 x8 => f_X7_spread_48 k2 n σ x1 x3 x5 x6 x7 x8) σ x1 x3 x5 x6 x7 x8 x5) else (Option.bind (f_X8_leadFrom σ 7 x5 x8 x6) fun v3 => f_X7_spread_82 k2 (fun σ x1 x3 x5 x6 x7 x8 => f_X7_spread_48 k2 n σ x1 x3 x5 x6 x7 x8) σ x1 x3 x5 x6 x7 x8 v3))
set_option maxRecDepth 100000 in
set_option maxHeartbeats 4000000 in
theorem w_X7_spread_48 {p : Program} {l : Launch} {e : Env} {s : State} {m : MethodId} {args : Array Value} {below : List Frame} {meth : Method} {c : Code} {G : Gp} {A : Nat → Prop} (k2 : Nat) (hk2 : kd k2 = 3) (S : CallFix p m c cX7_spread 10 s args wsX7_spread RX7) (hr : meth.sig.returnType = none) (hlocks : meth.locks = false) (hE : Ev G A s) (n : Nat) (σ : St) (x1 : Int32) (x3 : Int32) (x5 : Int32) (x6 : Int32) (x7 : Int32) (x8 : Int32) {σ' : St} (h : f_X7_spread_48 k2  n σ x1 x3 x5 x6 x7 x8 = some σ') {H : Heap} {locs : List Loc} {ls : Array Slot} (hw : Ww G A σ s H locs) (hl : lv_has ls 10 [(0, .ref (ad G 19)), (1, .int x1), (2, .ref (ad G k2)), (3, .int x3), (5, .int x5), (6, .int x6), (7, .int x7), (8, .int x8)]) : W p l e (rmd 4) s m args below meth c H locs 0 0 (Qv below args s G A σ') (F0 m 48 ls []) := by
  obtain ⟨hx, hb, hml, hown, hts⟩ := id S
  induction n generalizing σ x1 x3 x5 x6 x7 x8  σ' H locs ls with
  | zero => cases h
  | succ n ih =>
    unfold f_X7_spread_48 at h
    refine lv_iload hx hb dX7_spread_48 (lv_at hl 7 rfl) ?_
    refine lv_iload hx hb dX7_spread_50 (lv_at hl 6 rfl) ?_
    refine lv_icmp_gt (tgt := 143) hx hb dX7_spread_52 (by decide) (fun c1 => ?_) (fun c1 => ?_)
    · have h := if_t c1 h
      obtain rfl := Option.some.inj h
      exact r_vret S hr hlocks hw dX7_spread_143
    · have h := if_f c1 h
      refine lv_iload hx hb dX7_spread_55 (lv_at hl 7 rfl) ?_
      refine lv_if_ne (tgt := 65) hx hb dX7_spread_57 (by decide) (fun c2 => ?_) (fun c2 => ?_)
      · have h := if_f c2 h
        refine lv_aload_n hx hb dX7_spread_65 rfl (lv_at hl 0 rfl) ?_
        refine r_gr S hE hw 1 7 iw7_X7_spread rfl rfl (by decide) rfl (hts _ mf25_X7_spread) dX7_spread_66 ?_
        refine lv_iload hx hb dX7_spread_69 (lv_at hl 4 rfl) ?_
        refine lv_iload hx hb dX7_spread_71 (lv_at hl 7 rfl) ?_
        refine lv_iload hx hb dX7_spread_73 (lv_at hl 5 rfl) ?_
        refine lv_aload_n hx hb dX7_spread_75 rfl (lv_at hl 0 rfl) ?_
        refine r_gr S hE hw 0 1 iw7_X7_spread rfl rfl (by decide) rfl (hts _ mf21_X7_spread) dX7_spread_76 ?_
        obtain ⟨v3, gv3, h⟩ := oB_out h
        refine r_ci (r_runV (k := 7) (ci := 8) (As := [.int x5, .int x8, .int x6, .ref (ad G 1)]) (rest := []) S hE hw (c_X8_leadFrom  l G A σ 7 x5 x8 x6 rfl gv3) (cwV 4 hts gX7_spread_X8_leadFrom rfl rfl rfl (by decide +kernel) ⟨Nat.le_of_ble_eq_true rfl, Nat.le_of_ble_eq_true rfl⟩) rfl rfl (by decide) rfl hl.1 rfl (Nat.le_of_ble_eq_true rfl) ⟨Nat.zero_le _, Nat.zero_le _⟩ dX7_spread_79) hw (fun H locs hw => ?_)
        exact w_X7_spread_82 k2 hk2 S hr hlocks hE (fun σ x1 x3 x5 x6 x7 x8  _ _ h _ _ _ hw hl => ih σ x1 x3 x5 x6 x7 x8  h hw hl)  σ x1 x3 x5 x6 x7 x8 v3 h hw (lv_sub hl [0, 1, 2, 3, 4, 5, 6, 7] rfl)
      · have h := if_t c2 h
        refine lv_iload hx hb dX7_spread_60 (lv_at hl 4 rfl) ?_
        refine lv_goto (tgt := 82) hx hb dX7_spread_62 (by decide) ?_
        exact w_X7_spread_82 k2 hk2 S hr hlocks hE (fun σ x1 x3 x5 x6 x7 x8  _ _ h _ _ _ hw hl => ih σ x1 x3 x5 x6 x7 x8  h hw hl)  σ x1 x3 x5 x6 x7 x8 x5 h hw (lv_sub hl [0, 1, 2, 3, 4, 5, 6, 7] rfl)

def f_X7_spread (σ : St) (p1 : Int32) (k2 : Nat) (p3 : Int32) : Option St := if (f_X9_levelOfPlace p1) = 0 then (some σ) else (f_X7_spread_48 k2 10000 σ p1 p3 (f_X9_cellOfPlace p1) ((((σ.1 k2 6) + p3) - 1) - (((σ.1 k2 6) + p3) - 1) / 24 * 24) (if 7 < ((f_X9_levelOfPlace p1) + 1) then 7 else ((f_X9_levelOfPlace p1) + 1)) ((f_X9_levelOfPlace p1) - 1))
set_option maxRecDepth 100000 in
set_option maxHeartbeats 4000000 in
theorem c_X7_spread (l : Launch) (G : Gp) (A : Nat → Prop) (σ : St) (p1 : Int32) (k2 : Nat) (p3 : Int32) (hk2 : kd k2 = 3) {σ' : St} (h : f_X7_spread σ p1 k2 p3 = some σ') : Kv l yX7_spread wsX7_spread 4 G A [.ref (ad G 19), .int p1, .ref (ad G k2), .int p3] σ σ' := by
  unfold f_X7_spread at h
  refine r_start (ws := wsX7_spread) (d := 4) (by decide) rfl [.ref (ad G 19), .int p1, .ref (ad G k2), .int p3] (Nat.le_of_ble_eq_true rfl) ?_
  intro p e s m below meth c S hr hlocks hE hw ls hl
  have hl : lv_has ls 10 [(0, .ref (ad G 19)), (1, .int p1), (2, .ref (ad G k2)), (3, .int p3)] := hl
  obtain ⟨hx, hb, hml, hown, hts⟩ := id S
  refine lv_iload_n hx hb dX7_spread_0 rfl (lv_at hl 1 rfl) ?_
  refine r_ci (r_runN (As := [.int p1]) (rest := []) S hE hw (c_X9_levelOfPlace  l G A σ p1) (va_cnB 1 hts gX7_spread_X9_levelOfPlace_n57 rfl rfl rfl (hE.2.2.1 (RX7, 57, yX9_levelOfPlace) (by decide +kernel)) (hts _ mi9_X7_spread) (by decide +kernel) ⟨Nat.le_of_ble_eq_true rfl, Nat.le_of_ble_eq_true rfl⟩) (hts _ mtX9_levelOfPlace_X7_spread) rfl hl.1 rfl (Nat.le_of_ble_eq_true rfl) ⟨Nat.zero_le _, Nat.zero_le _⟩ dX7_spread_1) hw (fun H locs hw => ?_)
  refine lv_istore (lv' := [(4, .int (f_X9_levelOfPlace p1)), (0, .ref (ad G 19)), (1, .int p1), (2, .ref (ad G k2)), (3, .int p3)]) hx hb dX7_spread_4 hl (by decide) rfl (fun ls hl => ?_)
  refine lv_iload hx hb dX7_spread_6 (lv_at hl 0 rfl) ?_
  refine lv_if_ne (tgt := 12) hx hb dX7_spread_8 (by decide) (fun c1 => ?_) (fun c1 => ?_)
  · have h := if_f c1 h
    refine lv_iload_n hx hb dX7_spread_12 rfl (lv_at hl 2 rfl) ?_
    refine r_ci (r_runN (As := [.int p1]) (rest := []) S hE hw (c_X9_cellOfPlace  l G A σ p1) (va_cnB 1 hts gX7_spread_X9_cellOfPlace_n61 rfl rfl rfl (hE.2.2.1 (RX7, 61, yX9_cellOfPlace) (by decide +kernel)) (hts _ mi9_X7_spread) (by decide +kernel) ⟨Nat.le_of_ble_eq_true rfl, Nat.le_of_ble_eq_true rfl⟩) (hts _ mtX9_cellOfPlace_X7_spread) rfl hl.1 rfl (Nat.le_of_ble_eq_true rfl) ⟨Nat.zero_le _, Nat.zero_le _⟩ dX7_spread_13) hw (fun H locs hw => ?_)
    refine lv_istore (lv' := [(5, .int (f_X9_cellOfPlace p1)), (4, .int (f_X9_levelOfPlace p1)), (0, .ref (ad G 19)), (1, .int p1), (2, .ref (ad G k2)), (3, .int p3)]) hx hb dX7_spread_16 hl (by decide) rfl (fun ls hl => ?_)
    refine lv_aload_n hx hb dX7_spread_18 rfl (lv_at hl 4 rfl) ?_
    refine r_gi S hE hw 6 iw3_X7_spread hk2 rfl (by decide) (hts _ mf64_X7_spread) dX7_spread_19 ?_
    refine lv_iload_n hx hb dX7_spread_22 rfl (lv_at hl 5 rfl) ?_
    refine lv_iadd hx hb dX7_spread_23 ?_
    refine lv_iconst (v := 1) hx hb dX7_spread_24 (by decide) ?_
    refine lv_isub hx hb dX7_spread_25 ?_
    refine lv_bipush (v := 24) hx hb dX7_spread_26 (by decide) ?_
    refine lv_irem hx hb dX7_spread_28 (by decide) ?_
    refine lv_istore (lv' := [(6, .int ((((σ.1 k2 6) + p3) - 1) - (((σ.1 k2 6) + p3) - 1) / 24 * 24)), (5, .int (f_X9_cellOfPlace p1)), (4, .int (f_X9_levelOfPlace p1)), (0, .ref (ad G 19)), (1, .int p1), (2, .ref (ad G k2)), (3, .int p3)]) hx hb dX7_spread_29 hl (by decide) rfl (fun ls hl => ?_)
    refine lv_iload hx hb dX7_spread_31 (lv_at hl 2 rfl) ?_
    refine lv_iconst (v := 1) hx hb dX7_spread_33 (by decide) ?_
    refine lv_iadd hx hb dX7_spread_34 ?_
    refine lv_bipush (v := 7) hx hb dX7_spread_35 (by decide) ?_
    refine va_mmin hx hb (hml.trans hl.1.symm) hown (hts _ ml67_X7_spread) (hts _ msmin_X7_spread) (hts _ miM_X7_spread) (hts _ mkmin_X7_spread) (Nat.le_of_ble_eq_true rfl) (Nat.le_of_ble_eq_true rfl) (Nat.zero_le _) (Nat.zero_le _) dX7_spread_37 ?_
    refine lv_istore (lv' := [(7, .int (if 7 < ((f_X9_levelOfPlace p1) + 1) then 7 else ((f_X9_levelOfPlace p1) + 1))), (6, .int ((((σ.1 k2 6) + p3) - 1) - (((σ.1 k2 6) + p3) - 1) / 24 * 24)), (5, .int (f_X9_cellOfPlace p1)), (4, .int (f_X9_levelOfPlace p1)), (0, .ref (ad G 19)), (1, .int p1), (2, .ref (ad G k2)), (3, .int p3)]) hx hb dX7_spread_40 hl (by decide) rfl (fun ls hl => ?_)
    refine lv_iload hx hb dX7_spread_42 (lv_at hl 3 rfl) ?_
    refine lv_iconst (v := 1) hx hb dX7_spread_44 (by decide) ?_
    refine lv_isub hx hb dX7_spread_45 ?_
    refine lv_istore (lv' := [(8, .int ((f_X9_levelOfPlace p1) - 1)), (7, .int (if 7 < ((f_X9_levelOfPlace p1) + 1) then 7 else ((f_X9_levelOfPlace p1) + 1))), (6, .int ((((σ.1 k2 6) + p3) - 1) - (((σ.1 k2 6) + p3) - 1) / 24 * 24)), (5, .int (f_X9_cellOfPlace p1)), (4, .int (f_X9_levelOfPlace p1)), (0, .ref (ad G 19)), (1, .int p1), (2, .ref (ad G k2)), (3, .int p3)]) hx hb dX7_spread_46 hl (by decide) rfl (fun ls hl => ?_)
    exact w_X7_spread_48 k2 hk2 S hr hlocks hE  10000 σ p1 p3 (f_X9_cellOfPlace p1) ((((σ.1 k2 6) + p3) - 1) - (((σ.1 k2 6) + p3) - 1) / 24 * 24) (if 7 < ((f_X9_levelOfPlace p1) + 1) then 7 else ((f_X9_levelOfPlace p1) + 1)) ((f_X9_levelOfPlace p1) - 1) h hw (lv_sub hl [5, 6, 7, 8, 3, 2, 1, 0] rfl)
  · have h := if_t c1 h
    obtain rfl := Option.some.inj h
    exact r_vret S hr hlocks hw dX7_spread_11


theorem mf101_X7_sumUp : Cond.fieldLink RX7 101 "GasVoyages$WayCounter" "clean" "I" ∈ wsX7_sumUp := by decide +kernel
set_option maxRecDepth 20000 in
theorem iw7_X7_sumUp : ∀ w ∈ u_ws RX7 TX7 6, w ∈ wsX7_sumUp := by decide +kernel
theorem mf103_X7_sumUp : Cond.fieldLink RX7 103 "GasVoyages$WayCounter" "broken" "I" ∈ wsX7_sumUp := by decide +kernel
theorem mf12_X7_sumUp : Cond.fieldLink RX7 12 "GasVoyages$WayCounter" "here" "LGasVoyages$Front;" ∈ wsX7_sumUp := by decide +kernel
theorem mf46_X7_sumUp : Cond.fieldLink RX7 46 "GasVoyages$Front" "size" "I" ∈ wsX7_sumUp := by decide +kernel
set_option maxRecDepth 20000 in
theorem iw4_X7_sumUp : ∀ w ∈ u_ws RX4 TX4 4, w ∈ wsX7_sumUp := by decide +kernel
theorem mc105_X7_sumUp : Cond.constant RX7 105 (1000000) ∈ wsX7_sumUp := by decide +kernel
theorem mf86_X7_sumUp : Cond.fieldLink RX7 86 "GasVoyages$Front" "clean" "[I" ∈ wsX7_sumUp := by decide +kernel
theorem mf49_X7_sumUp : Cond.fieldLink RX7 49 "GasVoyages$Front" "places" "[I" ∈ wsX7_sumUp := by decide +kernel
theorem ml67_X7_sumUp : Cond.methodLink RX7 67 Lib.Math.min.name ∈ wsX7_sumUp := by decide +kernel
theorem msmin_X7_sumUp : Cond.static Lib.Math.min.name ∈ wsX7_sumUp := by decide +kernel
theorem miM_X7_sumUp : Cond.initialized "java/lang/Math" ∈ wsX7_sumUp := by decide +kernel
theorem mkmin_X7_sumUp : Cond.code Lib.Math.min.name Lib.Math.min.code 2 (some .int) ∈ wsX7_sumUp := by decide +kernel
theorem mf89_X7_sumUp : Cond.fieldLink RX7 89 "GasVoyages$Front" "broken" "[I" ∈ wsX7_sumUp := by decide +kernel
def f_X7_sumUp_12 : Nat → St → Int32 → Option St
  | 0, _, _ => none
  | n + 1, σ, x1 => if (σ.1 σ.2.1 3) ≤ x1 then (some σ) else (Option.bind (aL σ (σ.2.1 + 1) 4608 x1) fun v5 => Option.bind (aL σ (σ.2.1 + 2) 4608 v5) fun v6 => bT (up σ 19 4 (if ((σ.1 19 4) + v6) < 1000000 then ((σ.1 19 4) + v6) else 1000000)) fun s7 => Option.bind (aL s7 (s7.2.1 + 1) 4608 x1) fun v10 => Option.bind (aL s7 (s7.2.1 + 3) 4608 v10) fun v11 => bT (up s7 19 5 (if ((s7.1 19 5) + v11) < 1000000 then ((s7.1 19 5) + v11) else 1000000)) fun s12 => f_X7_sumUp_12 n s12 (x1 + 1))
set_option maxRecDepth 100000 in
set_option maxHeartbeats 4000000 in
theorem w_X7_sumUp_12 {p : Program} {l : Launch} {e : Env} {s : State} {m : MethodId} {args : Array Value} {below : List Frame} {meth : Method} {c : Code} {G : Gp} {A : Nat → Prop} (S : CallFix p m c cX7_sumUp 2 s args wsX7_sumUp RX7) (hr : meth.sig.returnType = none) (hlocks : meth.locks = false) (hE : Ev G A s) (n : Nat) (σ : St) (x1 : Int32) {σ' : St} (h : f_X7_sumUp_12   n σ x1 = some σ') {H : Heap} {locs : List Loc} {ls : Array Slot} (hw : Ww G A σ s H locs) (hl : lv_has ls 2 [(0, .ref (ad G 19)), (1, .int x1)]) : W p l e (rmd 1) s m args below meth c H locs 0 0 (Qv below args s G A σ') (F0 m 12 ls []) := by
  obtain ⟨hx, hb, hml, hown, hts⟩ := id S
  induction n generalizing σ x1  σ' H locs ls with
  | zero => cases h
  | succ n ih =>
    unfold f_X7_sumUp_12 at h
    refine lv_iload_n hx hb dX7_sumUp_12 rfl (lv_at hl 1 rfl) ?_
    refine lv_aload_n hx hb dX7_sumUp_13 rfl (lv_at hl 0 rfl) ?_
    have hf1 : kd σ.2.1 = 4 := hw.2.2.2.1
    refine r_gr S hE hw 2 σ.2.1 iw7_X7_sumUp rfl rfl (by decide) rfl (hts _ mf12_X7_sumUp) dX7_sumUp_14 ?_
    refine r_gi S hE hw 3 iw4_X7_sumUp hf1 rfl (by decide) (hts _ mf46_X7_sumUp) dX7_sumUp_17 ?_
    refine lv_icmp_ge (tgt := 91) hx hb dX7_sumUp_20 (by decide) (fun c2 => ?_) (fun c2 => ?_)
    · have h := if_t c2 h
      obtain rfl := Option.some.inj h
      exact r_vret S hr hlocks hw dX7_sumUp_91
    · have h := if_f c2 h
      refine lv_aload_n hx hb dX7_sumUp_23 rfl (lv_at hl 0 rfl) ?_
      refine lv_ldc (v := 1000000) hx hb hown (hts _ mc105_X7_sumUp) dX7_sumUp_24 ?_
      refine lv_aload_n hx hb dX7_sumUp_26 rfl (lv_at hl 0 rfl) ?_
      refine r_gi S hE hw 4 iw7_X7_sumUp rfl rfl (by decide) (hts _ mf101_X7_sumUp) dX7_sumUp_27 ?_
      refine lv_aload_n hx hb dX7_sumUp_30 rfl (lv_at hl 0 rfl) ?_
      have hf3 : kd σ.2.1 = 4 := hw.2.2.2.1
      refine r_gr S hE hw 2 σ.2.1 iw7_X7_sumUp rfl rfl (by decide) rfl (hts _ mf12_X7_sumUp) dX7_sumUp_31 ?_
      refine r_gr S hE hw 1 (σ.2.1 + 2) iw4_X7_sumUp hf3 rfl (by decide) rfl (hts _ mf86_X7_sumUp) dX7_sumUp_34 ?_
      refine lv_aload_n hx hb dX7_sumUp_37 rfl (lv_at hl 0 rfl) ?_
      have hf4 : kd σ.2.1 = 4 := hw.2.2.2.1
      refine r_gr S hE hw 2 σ.2.1 iw7_X7_sumUp rfl rfl (by decide) rfl (hts _ mf12_X7_sumUp) dX7_sumUp_38 ?_
      refine r_gr S hE hw 0 (σ.2.1 + 1) iw4_X7_sumUp hf4 rfl (by decide) rfl (hts _ mf49_X7_sumUp) dX7_sumUp_41 ?_
      refine lv_iload_n hx hb dX7_sumUp_44 rfl (lv_at hl 1 rfl) ?_
      obtain ⟨v5, gv5, h⟩ := oB_out h
      refine r_al S hE hw (kr_p hf4) (kr_pl hf4) gv5 dX7_sumUp_45 ?_
      obtain ⟨v6, gv6, h⟩ := oB_out h
      refine r_al S hE hw (kr_c hf3) (kr_cl hf3) gv6 dX7_sumUp_46 ?_
      refine lv_iadd hx hb dX7_sumUp_47 ?_
      refine va_mmin hx hb (hml.trans hl.1.symm) hown (hts _ ml67_X7_sumUp) (hts _ msmin_X7_sumUp) (hts _ miM_X7_sumUp) (hts _ mkmin_X7_sumUp) (Nat.le_of_ble_eq_true rfl) (Nat.le_of_ble_eq_true rfl) (Nat.zero_le _) (Nat.zero_le _) dX7_sumUp_48 ?_
      obtain ⟨s7, gs7, h⟩ := bT_out h
      refine r_pi S hE hw 4 (if ((σ.1 19 4) + v6) < 1000000 then ((σ.1 19 4) + v6) else 1000000) iw7_X7_sumUp tyX7 tyX7_ok nmX7 rfl rfl (by decide) (hts _ mf101_X7_sumUp) rfl (ty := .int) (by decide +kernel) rfl rfl dX7_sumUp_51 (fun H locs hw => ?_)
      rw [← gs7] at hw
      refine lv_aload_n hx hb dX7_sumUp_54 rfl (lv_at hl 0 rfl) ?_
      refine lv_ldc (v := 1000000) hx hb hown (hts _ mc105_X7_sumUp) dX7_sumUp_55 ?_
      refine lv_aload_n hx hb dX7_sumUp_57 rfl (lv_at hl 0 rfl) ?_
      refine r_gi S hE hw 5 iw7_X7_sumUp rfl rfl (by decide) (hts _ mf103_X7_sumUp) dX7_sumUp_58 ?_
      refine lv_aload_n hx hb dX7_sumUp_61 rfl (lv_at hl 0 rfl) ?_
      have hf8 : kd s7.2.1 = 4 := hw.2.2.2.1
      refine r_gr S hE hw 2 s7.2.1 iw7_X7_sumUp rfl rfl (by decide) rfl (hts _ mf12_X7_sumUp) dX7_sumUp_62 ?_
      refine r_gr S hE hw 2 (s7.2.1 + 3) iw4_X7_sumUp hf8 rfl (by decide) rfl (hts _ mf89_X7_sumUp) dX7_sumUp_65 ?_
      refine lv_aload_n hx hb dX7_sumUp_68 rfl (lv_at hl 0 rfl) ?_
      have hf9 : kd s7.2.1 = 4 := hw.2.2.2.1
      refine r_gr S hE hw 2 s7.2.1 iw7_X7_sumUp rfl rfl (by decide) rfl (hts _ mf12_X7_sumUp) dX7_sumUp_69 ?_
      refine r_gr S hE hw 0 (s7.2.1 + 1) iw4_X7_sumUp hf9 rfl (by decide) rfl (hts _ mf49_X7_sumUp) dX7_sumUp_72 ?_
      refine lv_iload_n hx hb dX7_sumUp_75 rfl (lv_at hl 1 rfl) ?_
      obtain ⟨v10, gv10, h⟩ := oB_out h
      refine r_al S hE hw (kr_p hf9) (kr_pl hf9) gv10 dX7_sumUp_76 ?_
      obtain ⟨v11, gv11, h⟩ := oB_out h
      refine r_al S hE hw (kr_b hf8) (kr_bl hf8) gv11 dX7_sumUp_77 ?_
      refine lv_iadd hx hb dX7_sumUp_78 ?_
      refine va_mmin hx hb (hml.trans hl.1.symm) hown (hts _ ml67_X7_sumUp) (hts _ msmin_X7_sumUp) (hts _ miM_X7_sumUp) (hts _ mkmin_X7_sumUp) (Nat.le_of_ble_eq_true rfl) (Nat.le_of_ble_eq_true rfl) (Nat.zero_le _) (Nat.zero_le _) dX7_sumUp_79 ?_
      obtain ⟨s12, gs12, h⟩ := bT_out h
      refine r_pi S hE hw 5 (if ((s7.1 19 5) + v11) < 1000000 then ((s7.1 19 5) + v11) else 1000000) iw7_X7_sumUp tyX7 tyX7_ok nmX7 rfl rfl (by decide) (hts _ mf103_X7_sumUp) rfl (ty := .int) (by decide +kernel) rfl rfl dX7_sumUp_82 (fun H locs hw => ?_)
      rw [← gs12] at hw
      refine lv_iinc (v := x1 + 1) (lv' := [(1, .int (x1 + 1)), (0, .ref (ad G 19))]) hx hb dX7_sumUp_85 hl (k := 1) rfl rfl (by decide) rfl (fun ls hl => ?_)
      refine lv_goto (tgt := 12) hx hb dX7_sumUp_88 (by decide) ?_
      exact ih s12 (x1 + 1) h hw (lv_sub hl [1, 0] rfl)

def f_X7_sumUp (σ : St) : Option St := bT (up σ 19 4 0) fun s1 => bT (up s1 19 5 0) fun s2 => f_X7_sumUp_12 10000 s2 0
set_option maxRecDepth 100000 in
set_option maxHeartbeats 4000000 in
theorem c_X7_sumUp (l : Launch) (G : Gp) (A : Nat → Prop) (σ : St) {σ' : St} (h : f_X7_sumUp σ  = some σ') : Kv l yX7_sumUp wsX7_sumUp 1 G A [.ref (ad G 19)] σ σ' := by
  unfold f_X7_sumUp at h
  refine r_start (ws := wsX7_sumUp) (d := 1) (by decide) rfl [.ref (ad G 19)] (Nat.le_of_ble_eq_true rfl) ?_
  intro p e s m below meth c S hr hlocks hE hw ls hl
  have hl : lv_has ls 2 [(0, .ref (ad G 19))] := hl
  obtain ⟨hx, hb, hml, hown, hts⟩ := id S
  refine lv_aload_n hx hb dX7_sumUp_0 rfl (lv_at hl 0 rfl) ?_
  refine lv_iconst (v := 0) hx hb dX7_sumUp_1 (by decide) ?_
  obtain ⟨s1, gs1, h⟩ := bT_out h
  refine r_pi S hE hw 4 0 iw7_X7_sumUp tyX7 tyX7_ok nmX7 rfl rfl (by decide) (hts _ mf101_X7_sumUp) rfl (ty := .int) (by decide +kernel) rfl rfl dX7_sumUp_2 (fun H locs hw => ?_)
  rw [← gs1] at hw
  refine lv_aload_n hx hb dX7_sumUp_5 rfl (lv_at hl 0 rfl) ?_
  refine lv_iconst (v := 0) hx hb dX7_sumUp_6 (by decide) ?_
  obtain ⟨s2, gs2, h⟩ := bT_out h
  refine r_pi S hE hw 5 0 iw7_X7_sumUp tyX7 tyX7_ok nmX7 rfl rfl (by decide) (hts _ mf103_X7_sumUp) rfl (ty := .int) (by decide +kernel) rfl rfl dX7_sumUp_7 (fun H locs hw => ?_)
  rw [← gs2] at hw
  refine lv_iconst (v := 0) hx hb dX7_sumUp_10 (by decide) ?_
  refine lv_istore_n (lv' := [(1, .int 0), (0, .ref (ad G 19))]) hx hb dX7_sumUp_11 rfl hl (by decide) rfl (fun ls hl => ?_)
  exact w_X7_sumUp_12   S hr hlocks hE  10000 s2 0 h hw (lv_sub hl [1, 0] rfl)


theorem mf12_X7_follow : Cond.fieldLink RX7 12 "GasVoyages$WayCounter" "here" "LGasVoyages$Front;" ∈ wsX7_follow := by decide +kernel
set_option maxRecDepth 20000 in
theorem iw7_X7_follow : ∀ w ∈ u_ws RX7 TX7 6, w ∈ wsX7_follow := by decide +kernel
theorem mf32_X7_follow : Cond.fieldLink RX7 32 "GasVoyages$Flight" "places" "[I" ∈ wsX7_follow := by decide +kernel
set_option maxRecDepth 20000 in
theorem iw3_X7_follow : ∀ w ∈ u_ws RX3 TX3 7, w ∈ wsX7_follow := by decide +kernel
theorem mf42_X7_follow : Cond.fieldLink RX7 42 "GasVoyages$Flight" "entries" "I" ∈ wsX7_follow := by decide +kernel
theorem mf18_X7_follow : Cond.fieldLink RX7 18 "GasVoyages$WayCounter" "there" "LGasVoyages$Front;" ∈ wsX7_follow := by decide +kernel
theorem mf46_X7_follow : Cond.fieldLink RX7 46 "GasVoyages$Front" "size" "I" ∈ wsX7_follow := by decide +kernel
set_option maxRecDepth 20000 in
theorem iw4_X7_follow : ∀ w ∈ u_ws RX4 TX4 4, w ∈ wsX7_follow := by decide +kernel
theorem mf49_X7_follow : Cond.fieldLink RX7 49 "GasVoyages$Front" "places" "[I" ∈ wsX7_follow := by decide +kernel
def f_X7_follow_74 (k1 : Nat) (kn25 : St → Int32 → Option St) (σ : St) (x2 : Int32) : Option St := bT ((σ.1, (σ.2.2, σ.2.2)) : St) fun s3 => bT ((s3.1, (s3.2.1, σ.2.1)) : St) fun s4 => kn25 s4 (x2 + 1)
set_option maxRecDepth 100000 in
set_option maxHeartbeats 4000000 in
theorem w_X7_follow_74 {p : Program} {l : Launch} {e : Env} {s : State} {m : MethodId} {args : Array Value} {below : List Frame} {meth : Method} {c : Code} {G : Gp} {A : Nat → Prop} (k1 : Nat) (hk1 : kd k1 = 3) (S : CallFix p m c cX7_follow 4 s args wsX7_follow RX7) (hr : meth.sig.returnType = none) (hlocks : meth.locks = false) (hE : Ev G A s) {kn25 : St → Int32 → Option St} (hkn25 : ∀ (σ : St) (x2 : Int32) (_ : Unit) (σ' : St), kn25 σ x2 = some σ' → ∀ (H : Heap) (locs : List Loc) (ls : Array Slot), Ww G A σ s H locs → lv_has ls 4 [(0, .ref (ad G 19)), (1, .ref (ad G k1)), (2, .int x2)] → W p l e (rmd 5) s m args below meth c H locs 0 0 (Qv below args s G A σ') (F0 m 25 ls [])) (σ : St) (x2 : Int32) {σ' : St} (h : f_X7_follow_74 k1 kn25 σ x2 = some σ') {H : Heap} {locs : List Loc} {ls : Array Slot} (hw : Ww G A σ s H locs) (hl : lv_has ls 4 [(0, .ref (ad G 19)), (1, .ref (ad G k1)), (2, .int x2)]) : W p l e (rmd 5) s m args below meth c H locs 0 0 (Qv below args s G A σ') (F0 m 74 ls []) := by
  obtain ⟨hx, hb, hml, hown, hts⟩ := id S
  unfold f_X7_follow_74 at h
  refine lv_aload_n hx hb dX7_follow_74 rfl (lv_at hl 0 rfl) ?_
  have hf1 : kd σ.2.1 = 4 := hw.2.2.2.1
  refine r_gr S hE hw 2 σ.2.1 iw7_X7_follow rfl rfl (by decide) rfl (hts _ mf12_X7_follow) dX7_follow_75 ?_
  refine lv_astore_n (lv' := [(3, .ref (ad G σ.2.1)), (0, .ref (ad G 19)), (1, .ref (ad G k1)), (2, .int x2)]) hx hb dX7_follow_78 rfl hl (by decide) rfl (fun ls hl => ?_)
  refine lv_aload_n hx hb dX7_follow_79 rfl (lv_at hl 1 rfl) ?_
  refine lv_aload_n hx hb dX7_follow_80 rfl (lv_at hl 1 rfl) ?_
  have hf2 : kd σ.2.2 = 4 := hw.2.2.2.2
  refine r_gr S hE hw 3 σ.2.2 iw7_X7_follow rfl rfl (by decide) rfl (hts _ mf18_X7_follow) dX7_follow_81 ?_
  obtain ⟨s3, gs3, h⟩ := bT_out h
  refine r_ph S hE hw σ.2.2 hf2 iw7_X7_follow (hts _ mf12_X7_follow) dX7_follow_84 (fun H locs hw => ?_)
  rw [← gs3] at hw
  refine lv_aload_n hx hb dX7_follow_87 rfl (lv_at hl 1 rfl) ?_
  refine lv_aload_n hx hb dX7_follow_88 rfl (lv_at hl 0 rfl) ?_
  obtain ⟨s4, gs4, h⟩ := bT_out h
  refine r_pt S hE hw σ.2.1 hf1 iw7_X7_follow (hts _ mf18_X7_follow) dX7_follow_89 (fun H locs hw => ?_)
  rw [← gs4] at hw
  refine lv_iinc (v := x2 + 1) (lv' := [(2, .int (x2 + 1)), (3, .ref (ad G σ.2.1)), (0, .ref (ad G 19)), (1, .ref (ad G k1))]) hx hb dX7_follow_92 hl (k := 3) rfl rfl (by decide) rfl (fun ls hl => ?_)
  refine lv_goto (tgt := 25) hx hb dX7_follow_95 (by decide) ?_
  exact hkn25 s4 (x2 + 1) () _ h _ _ _ hw (lv_sub hl [2, 3, 0] rfl)

def f_X7_follow_42 (k1 : Nat) (kn25 : St → Int32 → Option St) : Nat → St → Int32 → Int32 → Option St
  | 0, _, _, _ => none
  | n + 1, σ, x2, x3 => if (σ.1 σ.2.1 3) ≤ x3 then (f_X7_follow_74 k1 kn25 σ x2) else (Option.bind (aL σ (σ.2.1 + 1) 4608 x3) fun v4 => Option.bind (f_X7_spread σ v4 k1 x2) fun s5 => f_X7_follow_42 k1 kn25 n s5 x2 (x3 + 1))
set_option maxRecDepth 100000 in
set_option maxHeartbeats 4000000 in
theorem w_X7_follow_42 {p : Program} {l : Launch} {e : Env} {s : State} {m : MethodId} {args : Array Value} {below : List Frame} {meth : Method} {c : Code} {G : Gp} {A : Nat → Prop} (k1 : Nat) (hk1 : kd k1 = 3) (S : CallFix p m c cX7_follow 4 s args wsX7_follow RX7) (hr : meth.sig.returnType = none) (hlocks : meth.locks = false) (hE : Ev G A s) {kn25 : St → Int32 → Option St} (hkn25 : ∀ (σ : St) (x2 : Int32) (_ : Unit) (σ' : St), kn25 σ x2 = some σ' → ∀ (H : Heap) (locs : List Loc) (ls : Array Slot), Ww G A σ s H locs → lv_has ls 4 [(0, .ref (ad G 19)), (1, .ref (ad G k1)), (2, .int x2)] → W p l e (rmd 5) s m args below meth c H locs 0 0 (Qv below args s G A σ') (F0 m 25 ls [])) (n : Nat) (σ : St) (x2 : Int32) (x3 : Int32) {σ' : St} (h : f_X7_follow_42 k1 kn25 n σ x2 x3 = some σ') {H : Heap} {locs : List Loc} {ls : Array Slot} (hw : Ww G A σ s H locs) (hl : lv_has ls 4 [(0, .ref (ad G 19)), (1, .ref (ad G k1)), (2, .int x2), (3, .int x3)]) : W p l e (rmd 5) s m args below meth c H locs 0 0 (Qv below args s G A σ') (F0 m 42 ls []) := by
  obtain ⟨hx, hb, hml, hown, hts⟩ := id S
  induction n generalizing σ x2 x3  σ' H locs ls with
  | zero => cases h
  | succ n ih =>
    unfold f_X7_follow_42 at h
    refine lv_iload_n hx hb dX7_follow_42 rfl (lv_at hl 3 rfl) ?_
    refine lv_aload_n hx hb dX7_follow_43 rfl (lv_at hl 0 rfl) ?_
    have hf1 : kd σ.2.1 = 4 := hw.2.2.2.1
    refine r_gr S hE hw 2 σ.2.1 iw7_X7_follow rfl rfl (by decide) rfl (hts _ mf12_X7_follow) dX7_follow_44 ?_
    refine r_gi S hE hw 3 iw4_X7_follow hf1 rfl (by decide) (hts _ mf46_X7_follow) dX7_follow_47 ?_
    refine lv_icmp_ge (tgt := 74) hx hb dX7_follow_50 (by decide) (fun c2 => ?_) (fun c2 => ?_)
    · have h := if_t c2 h
      exact w_X7_follow_74 k1 hk1 S hr hlocks hE hkn25  σ x2 h hw (lv_sub hl [0, 1, 2] rfl)
    · have h := if_f c2 h
      refine lv_aload_n hx hb dX7_follow_53 rfl (lv_at hl 0 rfl) ?_
      refine lv_aload_n hx hb dX7_follow_54 rfl (lv_at hl 0 rfl) ?_
      have hf3 : kd σ.2.1 = 4 := hw.2.2.2.1
      refine r_gr S hE hw 2 σ.2.1 iw7_X7_follow rfl rfl (by decide) rfl (hts _ mf12_X7_follow) dX7_follow_55 ?_
      refine r_gr S hE hw 0 (σ.2.1 + 1) iw4_X7_follow hf3 rfl (by decide) rfl (hts _ mf49_X7_follow) dX7_follow_58 ?_
      refine lv_iload_n hx hb dX7_follow_61 rfl (lv_at hl 3 rfl) ?_
      obtain ⟨v4, gv4, h⟩ := oB_out h
      refine r_al S hE hw (kr_p hf3) (kr_pl hf3) gv4 dX7_follow_62 ?_
      refine lv_aload_n hx hb dX7_follow_63 rfl (lv_at hl 1 rfl) ?_
      refine lv_iload_n hx hb dX7_follow_64 rfl (lv_at hl 2 rfl) ?_
      obtain ⟨s5, gs5, h⟩ := oB_out h
      refine r_cv (r_runV (k := 19) (ci := 7) (As := [.int v4, .ref (ad G k1), .int x2]) (rest := []) S hE hw (c_X7_spread  l G A σ v4 k1 x2 hk1 gs5) (cwV 3 hts gX7_follow_X7_spread rfl rfl rfl (by decide +kernel) ⟨Nat.le_of_ble_eq_true rfl, Nat.le_of_ble_eq_true rfl⟩) rfl rfl (by decide) rfl hl.1 rfl (Nat.le_of_ble_eq_true rfl) ⟨Nat.zero_le _, Nat.zero_le _⟩ dX7_follow_65) hw (fun H locs hw => ?_)
      refine lv_iinc (v := x3 + 1) (lv' := [(3, .int (x3 + 1)), (0, .ref (ad G 19)), (1, .ref (ad G k1)), (2, .int x2)]) hx hb dX7_follow_68 hl (k := 3) rfl rfl (by decide) rfl (fun ls hl => ?_)
      refine lv_goto (tgt := 42) hx hb dX7_follow_71 (by decide) ?_
      exact ih s5 x2 (x3 + 1) h hw (lv_sub hl [1, 2, 3, 0] rfl)

def f_X7_follow_25 (k1 : Nat) : Nat → St → Int32 → Option St
  | 0, _, _ => none
  | n + 1, σ, x2 => if (σ.1 k1 3) ≤ x2 then (Option.bind (f_X7_sumUp σ) fun s2 => some s2) else (Option.bind (f_X4_clear σ σ.2.2) fun s4 => f_X7_follow_42 k1 (fun σ x2 => f_X7_follow_25 k1 n σ x2) 10000 s4 x2 0)
set_option maxRecDepth 100000 in
set_option maxHeartbeats 4000000 in
theorem w_X7_follow_25 {p : Program} {l : Launch} {e : Env} {s : State} {m : MethodId} {args : Array Value} {below : List Frame} {meth : Method} {c : Code} {G : Gp} {A : Nat → Prop} (k1 : Nat) (hk1 : kd k1 = 3) (S : CallFix p m c cX7_follow 4 s args wsX7_follow RX7) (hr : meth.sig.returnType = none) (hlocks : meth.locks = false) (hE : Ev G A s) (n : Nat) (σ : St) (x2 : Int32) {σ' : St} (h : f_X7_follow_25 k1  n σ x2 = some σ') {H : Heap} {locs : List Loc} {ls : Array Slot} (hw : Ww G A σ s H locs) (hl : lv_has ls 4 [(0, .ref (ad G 19)), (1, .ref (ad G k1)), (2, .int x2)]) : W p l e (rmd 5) s m args below meth c H locs 0 0 (Qv below args s G A σ') (F0 m 25 ls []) := by
  obtain ⟨hx, hb, hml, hown, hts⟩ := id S
  induction n generalizing σ x2  σ' H locs ls with
  | zero => cases h
  | succ n ih =>
    unfold f_X7_follow_25 at h
    refine lv_iload_n hx hb dX7_follow_25 rfl (lv_at hl 2 rfl) ?_
    refine lv_aload_n hx hb dX7_follow_26 rfl (lv_at hl 1 rfl) ?_
    refine r_gi S hE hw 3 iw3_X7_follow hk1 rfl (by decide) (hts _ mf42_X7_follow) dX7_follow_27 ?_
    refine lv_icmp_ge (tgt := 98) hx hb dX7_follow_30 (by decide) (fun c1 => ?_) (fun c1 => ?_)
    · have h := if_t c1 h
      refine lv_aload_n hx hb dX7_follow_98 rfl (lv_at hl 0 rfl) ?_
      obtain ⟨s2, gs2, h⟩ := oB_out h
      refine r_cv (r_runV (k := 19) (ci := 7) (As := []) (rest := []) S hE hw (c_X7_sumUp  l G A σ  gs2) (cwV 0 hts gX7_follow_X7_sumUp rfl rfl rfl (by decide +kernel) ⟨Nat.le_of_ble_eq_true rfl, Nat.le_of_ble_eq_true rfl⟩) rfl rfl (by decide) rfl hl.1 rfl (Nat.le_of_ble_eq_true rfl) ⟨Nat.zero_le _, Nat.zero_le _⟩ dX7_follow_99) hw (fun H locs hw => ?_)
      obtain rfl := Option.some.inj h
      exact r_vret S hr hlocks hw dX7_follow_102
    · have h := if_f c1 h
      refine lv_aload_n hx hb dX7_follow_33 rfl (lv_at hl 0 rfl) ?_
      have hf3 : kd σ.2.2 = 4 := hw.2.2.2.2
      refine r_gr S hE hw 3 σ.2.2 iw7_X7_follow rfl rfl (by decide) rfl (hts _ mf18_X7_follow) dX7_follow_34 ?_
      obtain ⟨s4, gs4, h⟩ := oB_out h
      refine r_cv (r_runV (k := σ.2.2) (ci := 4) (As := []) (rest := []) S hE hw (c_X4_clear  l G A σ σ.2.2 hf3 gs4) (cwV 0 hts gX7_follow_X4_clear rfl rfl rfl (by decide +kernel) ⟨Nat.le_of_ble_eq_true rfl, Nat.le_of_ble_eq_true rfl⟩) hf3 rfl (by decide) rfl hl.1 rfl (Nat.le_of_ble_eq_true rfl) ⟨Nat.zero_le _, Nat.zero_le _⟩ dX7_follow_37) hw (fun H locs hw => ?_)
      refine lv_iconst (v := 0) hx hb dX7_follow_40 (by decide) ?_
      refine lv_istore_n (lv' := [(3, .int 0), (0, .ref (ad G 19)), (1, .ref (ad G k1)), (2, .int x2)]) hx hb dX7_follow_41 rfl hl (by decide) rfl (fun ls hl => ?_)
      exact w_X7_follow_42 k1 hk1 S hr hlocks hE (fun σ x2  _ _ h _ _ _ hw hl => ih σ x2  h hw hl) 10000 s4 x2 0 h hw (lv_sub hl [1, 2, 3, 0] rfl)

def f_X7_follow (σ : St) (k1 : Nat) : Option St := Option.bind (f_X4_clear σ σ.2.1) fun s2 => Option.bind (aL s2 (k1 + 2) 60 0) fun v4 => Option.bind (f_X7_enter s2 s2.2.1 v4 1 0) fun s5 => f_X7_follow_25 k1 10000 s5 1
set_option maxRecDepth 100000 in
set_option maxHeartbeats 4000000 in
theorem c_X7_follow (l : Launch) (G : Gp) (A : Nat → Prop) (σ : St) (k1 : Nat) (hk1 : kd k1 = 3) {σ' : St} (h : f_X7_follow σ k1 = some σ') : Kv l yX7_follow wsX7_follow 5 G A [.ref (ad G 19), .ref (ad G k1)] σ σ' := by
  unfold f_X7_follow at h
  refine r_start (ws := wsX7_follow) (d := 5) (by decide) rfl [.ref (ad G 19), .ref (ad G k1)] (Nat.le_of_ble_eq_true rfl) ?_
  intro p e s m below meth c S hr hlocks hE hw ls hl
  have hl : lv_has ls 4 [(0, .ref (ad G 19)), (1, .ref (ad G k1))] := hl
  obtain ⟨hx, hb, hml, hown, hts⟩ := id S
  refine lv_aload_n hx hb dX7_follow_0 rfl (lv_at hl 0 rfl) ?_
  have hf1 : kd σ.2.1 = 4 := hw.2.2.2.1
  refine r_gr S hE hw 2 σ.2.1 iw7_X7_follow rfl rfl (by decide) rfl (hts _ mf12_X7_follow) dX7_follow_1 ?_
  obtain ⟨s2, gs2, h⟩ := oB_out h
  refine r_cv (r_runV (k := σ.2.1) (ci := 4) (As := []) (rest := []) S hE hw (c_X4_clear  l G A σ σ.2.1 hf1 gs2) (cwV 0 hts gX7_follow_X4_clear rfl rfl rfl (by decide +kernel) ⟨Nat.le_of_ble_eq_true rfl, Nat.le_of_ble_eq_true rfl⟩) hf1 rfl (by decide) rfl hl.1 rfl (Nat.le_of_ble_eq_true rfl) ⟨Nat.zero_le _, Nat.zero_le _⟩ dX7_follow_4) hw (fun H locs hw => ?_)
  refine lv_aload_n hx hb dX7_follow_7 rfl (lv_at hl 0 rfl) ?_
  refine lv_aload_n hx hb dX7_follow_8 rfl (lv_at hl 0 rfl) ?_
  have hf3 : kd s2.2.1 = 4 := hw.2.2.2.1
  refine r_gr S hE hw 2 s2.2.1 iw7_X7_follow rfl rfl (by decide) rfl (hts _ mf12_X7_follow) dX7_follow_9 ?_
  refine lv_aload_n hx hb dX7_follow_12 rfl (lv_at hl 1 rfl) ?_
  refine r_gr S hE hw 1 (k1 + 2) iw3_X7_follow hk1 rfl (by decide) rfl (hts _ mf32_X7_follow) dX7_follow_13 ?_
  refine lv_iconst (v := 0) hx hb dX7_follow_16 (by decide) ?_
  obtain ⟨v4, gv4, h⟩ := oB_out h
  refine r_al S hE hw (kf_p hk1) (kf_pl hk1) gv4 dX7_follow_17 ?_
  refine lv_iconst (v := 1) hx hb dX7_follow_18 (by decide) ?_
  refine lv_iconst (v := 0) hx hb dX7_follow_19 (by decide) ?_
  obtain ⟨s5, gs5, h⟩ := oB_out h
  refine r_cv (r_runV (k := 19) (ci := 7) (As := [.ref (ad G s2.2.1), .int v4, .int 1, .int 0]) (rest := []) S hE hw (c_X7_enter  l G A s2 s2.2.1 v4 1 0 hf3 gs5) (cwV 4 hts gX7_follow_X7_enter rfl rfl rfl (by decide +kernel) ⟨Nat.le_of_ble_eq_true rfl, Nat.le_of_ble_eq_true rfl⟩) rfl rfl (by decide) rfl hl.1 rfl (Nat.le_of_ble_eq_true rfl) ⟨Nat.zero_le _, Nat.zero_le _⟩ dX7_follow_20) hw (fun H locs hw => ?_)
  refine lv_iconst (v := 1) hx hb dX7_follow_23 (by decide) ?_
  refine lv_istore_n (lv' := [(2, .int 1), (0, .ref (ad G 19)), (1, .ref (ad G k1))]) hx hb dX7_follow_24 rfl hl (by decide) rfl (fun ls hl => ?_)
  exact w_X7_follow_25 k1 hk1 S hr hlocks hE  10000 s5 1 h hw (lv_sub hl [1, 2, 0] rfl)


theorem mf101_X7_verdict : Cond.fieldLink RX7 101 "GasVoyages$WayCounter" "clean" "I" ∈ wsX7_verdict := by decide +kernel
set_option maxRecDepth 20000 in
theorem iw7_X7_verdict : ∀ w ∈ u_ws RX7 TX7 6, w ∈ wsX7_verdict := by decide +kernel
theorem mf103_X7_verdict : Cond.fieldLink RX7 103 "GasVoyages$WayCounter" "broken" "I" ∈ wsX7_verdict := by decide +kernel
def f_X7_verdict_16 (σ : St) : Int32 := if (σ.1 19 5) ≤ 0 then (1) else (if (σ.1 19 4) = 0 then (2) else (1))
set_option maxRecDepth 100000 in
set_option maxHeartbeats 4000000 in
theorem w_X7_verdict_16 {p : Program} {l : Launch} {e : Env} {s : State} {m : MethodId} {args : Array Value} {below : List Frame} {meth : Method} {c : Code} {G : Gp} {A : Nat → Prop} (S : CallFix p m c cX7_verdict 1 s args wsX7_verdict RX7) (hr : meth.sig.returnType = (some .int)) (hlocks : meth.locks = false) (hE : Ev G A s) (σ : St) {r : Int32} (h : f_X7_verdict_16   σ  = r) {H : Heap} {locs : List Loc} {ls : Array Slot} (hw : Ww G A σ s H locs) (hl : lv_has ls 1 [(0, .ref (ad G 19))]) : W p l e (rmd 0) s m args below meth c H locs 0 0 (Qi below args s G A r σ) (F0 m 16 ls []) := by
  obtain ⟨hx, hb, hml, hown, hts⟩ := id S
  unfold f_X7_verdict_16 at h
  refine lv_aload_n hx hb dX7_verdict_16 rfl (lv_at hl 0 rfl) ?_
  refine r_gi S hE hw 5 iw7_X7_verdict rfl rfl (by decide) (hts _ mf103_X7_verdict) dX7_verdict_17 ?_
  refine lv_if_le (tgt := 34) hx hb dX7_verdict_20 (by decide) (fun c1 => ?_) (fun c1 => ?_)
  · have h := if_t c1 h
    refine lv_iconst (v := 1) hx hb dX7_verdict_34 (by decide) ?_
    subst h
    exact r_iret S hr hlocks hw dX7_verdict_35
  · have h := if_f c1 h
    refine lv_aload_n hx hb dX7_verdict_23 rfl (lv_at hl 0 rfl) ?_
    refine r_gi S hE hw 4 iw7_X7_verdict rfl rfl (by decide) (hts _ mf101_X7_verdict) dX7_verdict_24 ?_
    refine lv_if_ne (tgt := 34) hx hb dX7_verdict_27 (by decide) (fun c2 => ?_) (fun c2 => ?_)
    · have h := if_f c2 h
      refine lv_iconst (v := 1) hx hb dX7_verdict_34 (by decide) ?_
      subst h
      exact r_iret S hr hlocks hw dX7_verdict_35
    · have h := if_t c2 h
      refine lv_iconst (v := 2) hx hb dX7_verdict_30 (by decide) ?_
      refine lv_goto (tgt := 35) hx hb dX7_verdict_31 (by decide) ?_
      subst h
      exact r_iret S hr hlocks hw dX7_verdict_35

def f_X7_verdict (σ : St) : Int32 := if (σ.1 19 4) ≤ 0 then (f_X7_verdict_16 σ) else (if (σ.1 19 5) = 0 then (0) else (f_X7_verdict_16 σ))
set_option maxRecDepth 100000 in
set_option maxHeartbeats 4000000 in
theorem c_X7_verdict (l : Launch) (G : Gp) (A : Nat → Prop) (σ : St) : Ki l yX7_verdict wsX7_verdict 0 G A [.ref (ad G 19)] σ (f_X7_verdict σ ) σ := by
  obtain ⟨r, h⟩ : ∃ r, f_X7_verdict σ  = r := ⟨_, rfl⟩
  rw [h]
  unfold f_X7_verdict at h
  refine r_start (ws := wsX7_verdict) (d := 0) (by decide) rfl [.ref (ad G 19)] (Nat.le_of_ble_eq_true rfl) ?_
  intro p e s m below meth c S hr hlocks hE hw ls hl
  have hl : lv_has ls 1 [(0, .ref (ad G 19))] := hl
  obtain ⟨hx, hb, hml, hown, hts⟩ := id S
  refine lv_aload_n hx hb dX7_verdict_0 rfl (lv_at hl 0 rfl) ?_
  refine r_gi S hE hw 4 iw7_X7_verdict rfl rfl (by decide) (hts _ mf101_X7_verdict) dX7_verdict_1 ?_
  refine lv_if_le (tgt := 16) hx hb dX7_verdict_4 (by decide) (fun c1 => ?_) (fun c1 => ?_)
  · have h := if_t c1 h
    exact w_X7_verdict_16   S hr hlocks hE   σ  h hw (lv_sub hl [0] rfl)
  · have h := if_f c1 h
    refine lv_aload_n hx hb dX7_verdict_7 rfl (lv_at hl 0 rfl) ?_
    refine r_gi S hE hw 5 iw7_X7_verdict rfl rfl (by decide) (hts _ mf103_X7_verdict) dX7_verdict_8 ?_
    refine lv_if_ne (tgt := 16) hx hb dX7_verdict_11 (by decide) (fun c2 => ?_) (fun c2 => ?_)
    · have h := if_f c2 h
      exact w_X7_verdict_16   S hr hlocks hE   σ  h hw (lv_sub hl [0] rfl)
    · have h := if_t c2 h
      refine lv_iconst (v := 0) hx hb dX7_verdict_14 (by decide) ?_
      subst h
      exact r_iret S hr hlocks hw dX7_verdict_15


theorem mf9_X8_put : Cond.fieldLink RX8 9 "GasVoyages$Winds" "dx" "[I" ∈ wsX8_put := by decide +kernel
set_option maxRecDepth 20000 in
theorem iw8_X8_put : ∀ w ∈ u_ws RX8 TX8 2, w ∈ wsX8_put := by decide +kernel
theorem mf15_X8_put : Cond.fieldLink RX8 15 "GasVoyages$Winds" "dy" "[I" ∈ wsX8_put := by decide +kernel
def f_X8_put (σ : St) (k0 : Nat) (p1 : Int32) (p2 : Int32) (p3 : Int32) (p4 : Int32) : Option St := Option.bind (aS σ (k0 + 1) 192 ((p1 * 24) + p2) p3) fun s1 => Option.bind (aS s1 (k0 + 2) 192 ((p1 * 24) + p2) p4) fun s2 => some s2
set_option maxRecDepth 100000 in
set_option maxHeartbeats 4000000 in
theorem c_X8_put (l : Launch) (G : Gp) (A : Nat → Prop) (σ : St) (k0 : Nat) (p1 : Int32) (p2 : Int32) (p3 : Int32) (p4 : Int32) (hk0 : kd k0 = 8) {σ' : St} (h : f_X8_put σ k0 p1 p2 p3 p4 = some σ') : Kv l yX8_put wsX8_put 0 G A [.ref (ad G k0), .int p1, .int p2, .int p3, .int p4] σ σ' := by
  unfold f_X8_put at h
  refine r_start (ws := wsX8_put) (d := 0) (by decide) rfl [.ref (ad G k0), .int p1, .int p2, .int p3, .int p4] (Nat.le_of_ble_eq_true rfl) ?_
  intro p e s m below meth c S hr hlocks hE hw ls hl
  have hl : lv_has ls 5 [(0, .ref (ad G k0)), (1, .int p1), (2, .int p2), (3, .int p3), (4, .int p4)] := hl
  obtain ⟨hx, hb, hml, hown, hts⟩ := id S
  refine lv_aload_n hx hb dX8_put_0 rfl (lv_at hl 0 rfl) ?_
  refine r_gr S hE hw 0 (k0 + 1) iw8_X8_put hk0 rfl (by decide) rfl (hts _ mf9_X8_put) dX8_put_1 ?_
  refine lv_iload_n hx hb dX8_put_4 rfl (lv_at hl 1 rfl) ?_
  refine lv_bipush (v := 24) hx hb dX8_put_5 (by decide) ?_
  refine lv_imul hx hb dX8_put_7 ?_
  refine lv_iload_n hx hb dX8_put_8 rfl (lv_at hl 2 rfl) ?_
  refine lv_iadd hx hb dX8_put_9 ?_
  refine lv_iload_n hx hb dX8_put_10 rfl (lv_at hl 3 rfl) ?_
  obtain ⟨s1, gs1, h⟩ := oB_out h
  refine r_as S hE hw (kw_x hk0) (kw_xl hk0) gs1 dX8_put_11 (fun H locs hw => ?_)
  refine lv_aload_n hx hb dX8_put_12 rfl (lv_at hl 0 rfl) ?_
  refine r_gr S hE hw 1 (k0 + 2) iw8_X8_put hk0 rfl (by decide) rfl (hts _ mf15_X8_put) dX8_put_13 ?_
  refine lv_iload_n hx hb dX8_put_16 rfl (lv_at hl 1 rfl) ?_
  refine lv_bipush (v := 24) hx hb dX8_put_17 (by decide) ?_
  refine lv_imul hx hb dX8_put_19 ?_
  refine lv_iload_n hx hb dX8_put_20 rfl (lv_at hl 2 rfl) ?_
  refine lv_iadd hx hb dX8_put_21 ?_
  refine lv_iload hx hb dX8_put_22 (lv_at hl 4 rfl) ?_
  obtain ⟨s2, gs2, h⟩ := oB_out h
  refine r_as S hE hw (kw_y hk0) (kw_yl hk0) gs2 dX8_put_24 (fun H locs hw => ?_)
  obtain rfl := Option.some.inj h
  exact r_vret S hr hlocks hw dX8_put_25


theorem mf12_X9_land : Cond.fieldLink RX9 12 "GasVoyages" "ground" "LGasVoyages$Land;" ∈ wsX9_land := by decide +kernel
set_option maxRecDepth 20000 in
theorem iw9_X9_land : ∀ w ∈ u_ws RX9 TX9 8, w ∈ wsX9_land := by decide +kernel
theorem mf33_X9_land : Cond.fieldLink RX9 33 "GasVoyages" "flightCount" "I" ∈ wsX9_land := by decide +kernel
theorem mf64_X9_land : Cond.fieldLink RX9 64 "GasVoyages" "chasers" "LGasVoyages$Chasers;" ∈ wsX9_land := by decide +kernel
theorem mf77_X9_land : Cond.fieldLink RX9 77 "GasVoyages$Chasers" "number" "I" ∈ wsX9_land := by decide +kernel
set_option maxRecDepth 20000 in
theorem iw2_X9_land : ∀ w ∈ u_ws RX2 TX2 6, w ∈ wsX9_land := by decide +kernel
def f_X9_land (σ : St) (p1 : Int32) (p2 : Int32) : Option (Int32 × St) := if (f_X9_within p1 4 24) = 0 then (some ((-2), σ)) else (if (f_X9_within p2 4 24) = 0 then (some ((-2), σ)) else (Option.bind (f_X5_clear σ p1 p2) fun s5 => bT (up s5 0 4 0) fun s6 => bT (up s6 28 3 0) fun s7 => some (1, s7)))
set_option maxRecDepth 100000 in
set_option maxHeartbeats 4000000 in
theorem c_X9_land (l : Launch) (G : Gp) (A : Nat → Prop) (σ : St) (p1 : Int32) (p2 : Int32) {r : Int32} {σ' : St} (h : f_X9_land σ p1 p2 = some (r, σ')) : Ki l yX9_land wsX9_land 2 G A [.ref (ad G 0), .int p1, .int p2] σ r σ' := by
  unfold f_X9_land at h
  refine r_start (ws := wsX9_land) (d := 2) (by decide) rfl [.ref (ad G 0), .int p1, .int p2] (Nat.le_of_ble_eq_true rfl) ?_
  intro p e s m below meth c S hr hlocks hE hw ls hl
  have hl : lv_has ls 3 [(0, .ref (ad G 0)), (1, .int p1), (2, .int p2)] := hl
  obtain ⟨hx, hb, hml, hown, hts⟩ := id S
  refine lv_iload_n hx hb dX9_land_0 rfl (lv_at hl 1 rfl) ?_
  refine lv_iconst (v := 4) hx hb dX9_land_1 (by decide) ?_
  refine lv_bipush (v := 24) hx hb dX9_land_2 (by decide) ?_
  refine r_cz (r_runS (As := [.int p1, .int 4, .int 24]) (rest := []) S hE hw (c_X9_within  l G A σ p1 4 24) (va_cwS 3 hts gX9_land_X9_within rfl rfl rfl (by decide +kernel) ⟨Nat.le_of_ble_eq_true rfl, Nat.le_of_ble_eq_true rfl⟩) rfl hl.1 rfl (Nat.le_of_ble_eq_true rfl) ⟨Nat.zero_le _, Nat.zero_le _⟩ dX9_land_4) hw (fun H locs hw hb1 => ?_)
  refine lv_if_eq (tgt := 20) hx hb dX9_land_7 (by decide) (fun c2 => ?_) (fun c2 => ?_)
  · have h := if_t c2 h
    refine lv_bipush (v := (-2)) hx hb dX9_land_20 (by decide) ?_
    obtain ⟨rfl, rfl⟩ := rt2 h
    exact r_iret S hr hlocks hw dX9_land_22
  · have h := if_f c2 h
    refine lv_iload_n hx hb dX9_land_10 rfl (lv_at hl 2 rfl) ?_
    refine lv_iconst (v := 4) hx hb dX9_land_11 (by decide) ?_
    refine lv_bipush (v := 24) hx hb dX9_land_12 (by decide) ?_
    refine r_cz (r_runS (As := [.int p2, .int 4, .int 24]) (rest := []) S hE hw (c_X9_within  l G A σ p2 4 24) (va_cwS 3 hts gX9_land_X9_within rfl rfl rfl (by decide +kernel) ⟨Nat.le_of_ble_eq_true rfl, Nat.le_of_ble_eq_true rfl⟩) rfl hl.1 rfl (Nat.le_of_ble_eq_true rfl) ⟨Nat.zero_le _, Nat.zero_le _⟩ dX9_land_14) hw (fun H locs hw hb3 => ?_)
    refine lv_if_ne (tgt := 23) hx hb dX9_land_17 (by decide) (fun c4 => ?_) (fun c4 => ?_)
    · have h := if_f c4 h
      refine lv_aload_n hx hb dX9_land_23 rfl (lv_at hl 0 rfl) ?_
      refine r_gr S hE hw 0 1 iw9_X9_land rfl rfl (by decide) rfl (hts _ mf12_X9_land) dX9_land_24 ?_
      refine lv_iload_n hx hb dX9_land_27 rfl (lv_at hl 1 rfl) ?_
      refine lv_iload_n hx hb dX9_land_28 rfl (lv_at hl 2 rfl) ?_
      obtain ⟨s5, gs5, h⟩ := oB_out h
      refine r_cv (r_runV (k := 1) (ci := 5) (As := [.int p1, .int p2]) (rest := []) S hE hw (c_X5_clear  l G A σ p1 p2 gs5) (cwV 2 hts gX9_land_X5_clear rfl rfl rfl (by decide +kernel) ⟨Nat.le_of_ble_eq_true rfl, Nat.le_of_ble_eq_true rfl⟩) rfl rfl (by decide) rfl hl.1 rfl (Nat.le_of_ble_eq_true rfl) ⟨Nat.zero_le _, Nat.zero_le _⟩ dX9_land_29) hw (fun H locs hw => ?_)
      refine lv_aload_n hx hb dX9_land_32 rfl (lv_at hl 0 rfl) ?_
      refine lv_iconst (v := 0) hx hb dX9_land_33 (by decide) ?_
      obtain ⟨s6, gs6, h⟩ := bT_out h
      refine r_pi S hE hw 4 0 iw9_X9_land tyX9 tyX9_ok nmX9 rfl rfl (by decide) (hts _ mf33_X9_land) rfl (ty := .int) (by decide +kernel) rfl rfl dX9_land_34 (fun H locs hw => ?_)
      rw [← gs6] at hw
      refine lv_aload_n hx hb dX9_land_37 rfl (lv_at hl 0 rfl) ?_
      refine r_gr S hE hw 7 28 iw9_X9_land rfl rfl (by decide) rfl (hts _ mf64_X9_land) dX9_land_38 ?_
      refine lv_iconst (v := 0) hx hb dX9_land_41 (by decide) ?_
      obtain ⟨s7, gs7, h⟩ := bT_out h
      refine r_pi S hE hw 3 0 iw2_X9_land tyX2 tyX2_ok nmX2 rfl rfl (by decide) (hts _ mf77_X9_land) rfl (ty := .int) (by decide +kernel) rfl rfl dX9_land_42 (fun H locs hw => ?_)
      rw [← gs7] at hw
      refine lv_iconst (v := 1) hx hb dX9_land_45 (by decide) ?_
      obtain ⟨rfl, rfl⟩ := rt2 h
      exact r_iret S hr hlocks hw dX9_land_46
    · have h := if_t c4 h
      refine lv_bipush (v := (-2)) hx hb dX9_land_20 (by decide) ?_
      obtain ⟨rfl, rfl⟩ := rt2 h
      exact r_iret S hr hlocks hw dX9_land_22


theorem mf12_X9_cell : Cond.fieldLink RX9 12 "GasVoyages" "ground" "LGasVoyages$Land;" ∈ wsX9_cell := by decide +kernel
set_option maxRecDepth 20000 in
theorem iw9_X9_cell : ∀ w ∈ u_ws RX9 TX9 8, w ∈ wsX9_cell := by decide +kernel
theorem mf64_X9_cell : Cond.fieldLink RX9 64 "GasVoyages" "chasers" "LGasVoyages$Chasers;" ∈ wsX9_cell := by decide +kernel
theorem mf92_X9_cell : Cond.fieldLink RX9 92 "GasVoyages$Land" "kinds" "[I" ∈ wsX9_cell := by decide +kernel
set_option maxRecDepth 20000 in
theorem iw5_X9_cell : ∀ w ∈ u_ws RX5 TX5 3, w ∈ wsX9_cell := by decide +kernel
def f_X9_cell_51 (σ : St) (x3 : Int32) (x4 : Int32) : Option (Int32 × St) := Option.bind (aL σ 2 576 x4) fun v1 => Option.bind (aS σ 2 576 x4 x3) fun s2 => some (v1, s2)
set_option maxRecDepth 100000 in
set_option maxHeartbeats 4000000 in
theorem w_X9_cell_51 {p : Program} {l : Launch} {e : Env} {s : State} {m : MethodId} {args : Array Value} {below : List Frame} {meth : Method} {c : Code} {G : Gp} {A : Nat → Prop} (S : CallFix p m c cX9_cell 6 s args wsX9_cell RX9) (hr : meth.sig.returnType = (some .int)) (hlocks : meth.locks = false) (hE : Ev G A s) (σ : St) (x3 : Int32) (x4 : Int32) {r : Int32} {σ' : St} (h : f_X9_cell_51   σ x3 x4 = some (r, σ')) {H : Heap} {locs : List Loc} {ls : Array Slot} (hw : Ww G A σ s H locs) (hl : lv_has ls 6 [(0, .ref (ad G 0)), (3, .int x3), (4, .int x4)]) : W p l e (rmd 2) s m args below meth c H locs 0 0 (Qi below args s G A r σ') (F0 m 51 ls []) := by
  obtain ⟨hx, hb, hml, hown, hts⟩ := id S
  unfold f_X9_cell_51 at h
  refine lv_aload_n hx hb dX9_cell_51 rfl (lv_at hl 0 rfl) ?_
  refine r_gr S hE hw 0 1 iw9_X9_cell rfl rfl (by decide) rfl (hts _ mf12_X9_cell) dX9_cell_52 ?_
  refine r_gr S hE hw 2 2 iw5_X9_cell rfl rfl (by decide) rfl (hts _ mf92_X9_cell) dX9_cell_55 ?_
  refine lv_iload hx hb dX9_cell_58 (lv_at hl 2 rfl) ?_
  obtain ⟨v1, gv1, h⟩ := oB_out h
  refine r_al S hE hw rfl rfl gv1 dX9_cell_60 ?_
  refine lv_istore (lv' := [(5, .int v1), (0, .ref (ad G 0)), (3, .int x3), (4, .int x4)]) hx hb dX9_cell_61 hl (by decide) rfl (fun ls hl => ?_)
  refine lv_aload_n hx hb dX9_cell_63 rfl (lv_at hl 1 rfl) ?_
  refine r_gr S hE hw 0 1 iw9_X9_cell rfl rfl (by decide) rfl (hts _ mf12_X9_cell) dX9_cell_64 ?_
  refine r_gr S hE hw 2 2 iw5_X9_cell rfl rfl (by decide) rfl (hts _ mf92_X9_cell) dX9_cell_67 ?_
  refine lv_iload hx hb dX9_cell_70 (lv_at hl 3 rfl) ?_
  refine lv_iload_n hx hb dX9_cell_72 rfl (lv_at hl 2 rfl) ?_
  obtain ⟨s2, gs2, h⟩ := oB_out h
  refine r_as S hE hw rfl rfl gs2 dX9_cell_73 (fun H locs hw => ?_)
  refine lv_iload hx hb dX9_cell_74 (lv_at hl 0 rfl) ?_
  obtain ⟨rfl, rfl⟩ := rt2 h
  exact r_iret S hr hlocks hw dX9_cell_76

def f_X9_cell (σ : St) (p1 : Int32) (p2 : Int32) (p3 : Int32) : Option (Int32 × St) := if (f_X5_has σ p1 p2) = 0 then (some ((-2), σ)) else (if (f_X9_within p3 0 2) = 0 then (some ((-2), σ)) else (if p3 = 1 then (Option.bind (f_X2_standOn σ (f_X9_cellOf p1 p2)) fun v6 => if v6 = 0 then (f_X9_cell_51 σ p3 (f_X9_cellOf p1 p2)) else (some ((-3), σ))) else (f_X9_cell_51 σ p3 (f_X9_cellOf p1 p2))))
set_option maxRecDepth 100000 in
set_option maxHeartbeats 4000000 in
theorem c_X9_cell (l : Launch) (G : Gp) (A : Nat → Prop) (σ : St) (p1 : Int32) (p2 : Int32) (p3 : Int32) {r : Int32} {σ' : St} (h : f_X9_cell σ p1 p2 p3 = some (r, σ')) : Ki l yX9_cell wsX9_cell 2 G A [.ref (ad G 0), .int p1, .int p2, .int p3] σ r σ' := by
  unfold f_X9_cell at h
  refine r_start (ws := wsX9_cell) (d := 2) (by decide) rfl [.ref (ad G 0), .int p1, .int p2, .int p3] (Nat.le_of_ble_eq_true rfl) ?_
  intro p e s m below meth c S hr hlocks hE hw ls hl
  have hl : lv_has ls 6 [(0, .ref (ad G 0)), (1, .int p1), (2, .int p2), (3, .int p3)] := hl
  obtain ⟨hx, hb, hml, hown, hts⟩ := id S
  refine lv_aload_n hx hb dX9_cell_0 rfl (lv_at hl 0 rfl) ?_
  refine r_gr S hE hw 0 1 iw9_X9_cell rfl rfl (by decide) rfl (hts _ mf12_X9_cell) dX9_cell_1 ?_
  refine lv_iload_n hx hb dX9_cell_4 rfl (lv_at hl 1 rfl) ?_
  refine lv_iload_n hx hb dX9_cell_5 rfl (lv_at hl 2 rfl) ?_
  refine r_cz (r_runV (k := 1) (ci := 5) (As := [.int p1, .int p2]) (rest := []) S hE hw (c_X5_has  l G A σ p1 p2) (cwV 2 hts gX9_cell_X5_has rfl rfl rfl (by decide +kernel) ⟨Nat.le_of_ble_eq_true rfl, Nat.le_of_ble_eq_true rfl⟩) rfl rfl (by decide) rfl hl.1 rfl (Nat.le_of_ble_eq_true rfl) ⟨Nat.zero_le _, Nat.zero_le _⟩ dX9_cell_6) hw (fun H locs hw hb1 => ?_)
  refine lv_if_eq (tgt := 21) hx hb dX9_cell_9 (by decide) (fun c2 => ?_) (fun c2 => ?_)
  · have h := if_t c2 h
    refine lv_bipush (v := (-2)) hx hb dX9_cell_21 (by decide) ?_
    obtain ⟨rfl, rfl⟩ := rt2 h
    exact r_iret S hr hlocks hw dX9_cell_23
  · have h := if_f c2 h
    refine lv_iload_n hx hb dX9_cell_12 rfl (lv_at hl 3 rfl) ?_
    refine lv_iconst (v := 0) hx hb dX9_cell_13 (by decide) ?_
    refine lv_iconst (v := 2) hx hb dX9_cell_14 (by decide) ?_
    refine r_cz (r_runS (As := [.int p3, .int 0, .int 2]) (rest := []) S hE hw (c_X9_within  l G A σ p3 0 2) (va_cwS 3 hts gX9_cell_X9_within rfl rfl rfl (by decide +kernel) ⟨Nat.le_of_ble_eq_true rfl, Nat.le_of_ble_eq_true rfl⟩) rfl hl.1 rfl (Nat.le_of_ble_eq_true rfl) ⟨Nat.zero_le _, Nat.zero_le _⟩ dX9_cell_15) hw (fun H locs hw hb3 => ?_)
    refine lv_if_ne (tgt := 24) hx hb dX9_cell_18 (by decide) (fun c4 => ?_) (fun c4 => ?_)
    · have h := if_f c4 h
      refine lv_iload_n hx hb dX9_cell_24 rfl (lv_at hl 1 rfl) ?_
      refine lv_iload_n hx hb dX9_cell_25 rfl (lv_at hl 2 rfl) ?_
      refine r_ci (r_runS (As := [.int p1, .int p2]) (rest := []) S hE hw (c_X9_cellOf  l G A σ p1 p2) (va_cwS 2 hts gX9_cell_X9_cellOf rfl rfl rfl (by decide +kernel) ⟨Nat.le_of_ble_eq_true rfl, Nat.le_of_ble_eq_true rfl⟩) rfl hl.1 rfl (Nat.le_of_ble_eq_true rfl) ⟨Nat.zero_le _, Nat.zero_le _⟩ dX9_cell_26) hw (fun H locs hw => ?_)
      refine lv_istore (lv' := [(4, .int (f_X9_cellOf p1 p2)), (0, .ref (ad G 0)), (1, .int p1), (2, .int p2), (3, .int p3)]) hx hb dX9_cell_29 hl (by decide) rfl (fun ls hl => ?_)
      refine lv_iload_n hx hb dX9_cell_31 rfl (lv_at hl 4 rfl) ?_
      refine lv_iconst (v := 1) hx hb dX9_cell_32 (by decide) ?_
      refine lv_icmp_ne (tgt := 51) hx hb dX9_cell_33 (by decide) (fun c5 => ?_) (fun c5 => ?_)
      · have h := if_f c5 h
        exact w_X9_cell_51   S hr hlocks hE   σ p3 (f_X9_cellOf p1 p2) h hw (lv_sub hl [1, 4, 0] rfl)
      · have h := if_t c5 h
        refine lv_aload_n hx hb dX9_cell_36 rfl (lv_at hl 1 rfl) ?_
        refine r_gr S hE hw 7 28 iw9_X9_cell rfl rfl (by decide) rfl (hts _ mf64_X9_cell) dX9_cell_37 ?_
        refine lv_iload hx hb dX9_cell_40 (lv_at hl 0 rfl) ?_
        obtain ⟨v6, gv6, h⟩ := oB_out h
        refine r_cz (r_runV (k := 28) (ci := 2) (As := [.int (f_X9_cellOf p1 p2)]) (rest := []) S hE hw (c_X2_standOn  l G A σ (f_X9_cellOf p1 p2) gv6) (cwV 1 hts gX9_cell_X2_standOn rfl rfl rfl (by decide +kernel) ⟨Nat.le_of_ble_eq_true rfl, Nat.le_of_ble_eq_true rfl⟩) rfl rfl (by decide) rfl hl.1 rfl (Nat.le_of_ble_eq_true rfl) ⟨Nat.zero_le _, Nat.zero_le _⟩ dX9_cell_42) hw (fun H locs hw hb7 => ?_)
        refine lv_if_eq (tgt := 51) hx hb dX9_cell_45 (by decide) (fun c8 => ?_) (fun c8 => ?_)
        · have h := if_t c8 h
          exact w_X9_cell_51   S hr hlocks hE   σ p3 (f_X9_cellOf p1 p2) h hw (lv_sub hl [1, 4, 0] rfl)
        · have h := if_f c8 h
          refine lv_bipush (v := (-3)) hx hb dX9_cell_48 (by decide) ?_
          obtain ⟨rfl, rfl⟩ := rt2 h
          exact r_iret S hr hlocks hw dX9_cell_50
    · have h := if_t c4 h
      refine lv_bipush (v := (-2)) hx hb dX9_cell_21 (by decide) ?_
      obtain ⟨rfl, rfl⟩ := rt2 h
      exact r_iret S hr hlocks hw dX9_cell_23


theorem mf19_X9_level : Cond.fieldLink RX9 19 "GasVoyages" "air" "LGasVoyages$Air;" ∈ wsX9_level := by decide +kernel
set_option maxRecDepth 20000 in
theorem iw9_X9_level : ∀ w ∈ u_ws RX9 TX9 8, w ∈ wsX9_level := by decide +kernel
theorem mf96_X9_level : Cond.fieldLink RX9 96 "GasVoyages$Air" "density" "[I" ∈ wsX9_level := by decide +kernel
set_option maxRecDepth 20000 in
theorem iw0_X9_level : ∀ w ∈ u_ws RX0 TX0 5, w ∈ wsX9_level := by decide +kernel
theorem mf99_X9_level : Cond.fieldLink RX9 99 "GasVoyages$Air" "fullness" "[I" ∈ wsX9_level := by decide +kernel
def f_X9_level (σ : St) (p1 : Int32) (p2 : Int32) (p3 : Int32) : Option (Int32 × St) := if (f_X9_within p1 0 7) = 0 then (some ((-2), σ)) else (if (f_X9_within p2 0 50) = 0 then (some ((-2), σ)) else (if (f_X9_within p3 0 500) = 0 then (some ((-2), σ)) else (Option.bind (aS σ 4 8 p1 p2) fun s7 => Option.bind (aS s7 5 8 p1 p3) fun s8 => some (1, s8))))
set_option maxRecDepth 100000 in
set_option maxHeartbeats 4000000 in
theorem c_X9_level (l : Launch) (G : Gp) (A : Nat → Prop) (σ : St) (p1 : Int32) (p2 : Int32) (p3 : Int32) {r : Int32} {σ' : St} (h : f_X9_level σ p1 p2 p3 = some (r, σ')) : Ki l yX9_level wsX9_level 1 G A [.ref (ad G 0), .int p1, .int p2, .int p3] σ r σ' := by
  unfold f_X9_level at h
  refine r_start (ws := wsX9_level) (d := 1) (by decide) rfl [.ref (ad G 0), .int p1, .int p2, .int p3] (Nat.le_of_ble_eq_true rfl) ?_
  intro p e s m below meth c S hr hlocks hE hw ls hl
  have hl : lv_has ls 4 [(0, .ref (ad G 0)), (1, .int p1), (2, .int p2), (3, .int p3)] := hl
  obtain ⟨hx, hb, hml, hown, hts⟩ := id S
  refine lv_iload_n hx hb dX9_level_0 rfl (lv_at hl 1 rfl) ?_
  refine lv_iconst (v := 0) hx hb dX9_level_1 (by decide) ?_
  refine lv_bipush (v := 7) hx hb dX9_level_2 (by decide) ?_
  refine r_cz (r_runS (As := [.int p1, .int 0, .int 7]) (rest := []) S hE hw (c_X9_within  l G A σ p1 0 7) (va_cwS 3 hts gX9_level_X9_within rfl rfl rfl (by decide +kernel) ⟨Nat.le_of_ble_eq_true rfl, Nat.le_of_ble_eq_true rfl⟩) rfl hl.1 rfl (Nat.le_of_ble_eq_true rfl) ⟨Nat.zero_le _, Nat.zero_le _⟩ dX9_level_4) hw (fun H locs hw hb1 => ?_)
  refine lv_if_eq (tgt := 31) hx hb dX9_level_7 (by decide) (fun c2 => ?_) (fun c2 => ?_)
  · have h := if_t c2 h
    refine lv_bipush (v := (-2)) hx hb dX9_level_31 (by decide) ?_
    obtain ⟨rfl, rfl⟩ := rt2 h
    exact r_iret S hr hlocks hw dX9_level_33
  · have h := if_f c2 h
    refine lv_iload_n hx hb dX9_level_10 rfl (lv_at hl 2 rfl) ?_
    refine lv_iconst (v := 0) hx hb dX9_level_11 (by decide) ?_
    refine lv_bipush (v := 50) hx hb dX9_level_12 (by decide) ?_
    refine r_cz (r_runS (As := [.int p2, .int 0, .int 50]) (rest := []) S hE hw (c_X9_within  l G A σ p2 0 50) (va_cwS 3 hts gX9_level_X9_within rfl rfl rfl (by decide +kernel) ⟨Nat.le_of_ble_eq_true rfl, Nat.le_of_ble_eq_true rfl⟩) rfl hl.1 rfl (Nat.le_of_ble_eq_true rfl) ⟨Nat.zero_le _, Nat.zero_le _⟩ dX9_level_14) hw (fun H locs hw hb3 => ?_)
    refine lv_if_eq (tgt := 31) hx hb dX9_level_17 (by decide) (fun c4 => ?_) (fun c4 => ?_)
    · have h := if_t c4 h
      refine lv_bipush (v := (-2)) hx hb dX9_level_31 (by decide) ?_
      obtain ⟨rfl, rfl⟩ := rt2 h
      exact r_iret S hr hlocks hw dX9_level_33
    · have h := if_f c4 h
      refine lv_iload_n hx hb dX9_level_20 rfl (lv_at hl 3 rfl) ?_
      refine lv_iconst (v := 0) hx hb dX9_level_21 (by decide) ?_
      refine lv_sipush (v := 500) hx hb dX9_level_22 (by decide) ?_
      refine r_cz (r_runS (As := [.int p3, .int 0, .int 500]) (rest := []) S hE hw (c_X9_within  l G A σ p3 0 500) (va_cwS 3 hts gX9_level_X9_within rfl rfl rfl (by decide +kernel) ⟨Nat.le_of_ble_eq_true rfl, Nat.le_of_ble_eq_true rfl⟩) rfl hl.1 rfl (Nat.le_of_ble_eq_true rfl) ⟨Nat.zero_le _, Nat.zero_le _⟩ dX9_level_25) hw (fun H locs hw hb5 => ?_)
      refine lv_if_ne (tgt := 34) hx hb dX9_level_28 (by decide) (fun c6 => ?_) (fun c6 => ?_)
      · have h := if_f c6 h
        refine lv_aload_n hx hb dX9_level_34 rfl (lv_at hl 0 rfl) ?_
        refine r_gr S hE hw 1 3 iw9_X9_level rfl rfl (by decide) rfl (hts _ mf19_X9_level) dX9_level_35 ?_
        refine r_gr S hE hw 0 4 iw0_X9_level rfl rfl (by decide) rfl (hts _ mf96_X9_level) dX9_level_38 ?_
        refine lv_iload_n hx hb dX9_level_41 rfl (lv_at hl 1 rfl) ?_
        refine lv_iload_n hx hb dX9_level_42 rfl (lv_at hl 2 rfl) ?_
        obtain ⟨s7, gs7, h⟩ := oB_out h
        refine r_as S hE hw rfl rfl gs7 dX9_level_43 (fun H locs hw => ?_)
        refine lv_aload_n hx hb dX9_level_44 rfl (lv_at hl 0 rfl) ?_
        refine r_gr S hE hw 1 3 iw9_X9_level rfl rfl (by decide) rfl (hts _ mf19_X9_level) dX9_level_45 ?_
        refine r_gr S hE hw 1 5 iw0_X9_level rfl rfl (by decide) rfl (hts _ mf99_X9_level) dX9_level_48 ?_
        refine lv_iload_n hx hb dX9_level_51 rfl (lv_at hl 1 rfl) ?_
        refine lv_iload_n hx hb dX9_level_52 rfl (lv_at hl 3 rfl) ?_
        obtain ⟨s8, gs8, h⟩ := oB_out h
        refine r_as S hE hw rfl rfl gs8 dX9_level_53 (fun H locs hw => ?_)
        refine lv_iconst (v := 1) hx hb dX9_level_54 (by decide) ?_
        obtain ⟨rfl, rfl⟩ := rt2 h
        exact r_iret S hr hlocks hw dX9_level_55
      · have h := if_t c6 h
        refine lv_bipush (v := (-2)) hx hb dX9_level_31 (by decide) ?_
        obtain ⟨rfl, rfl⟩ := rt2 h
        exact r_iret S hr hlocks hw dX9_level_33


theorem mf19_X9_warmth : Cond.fieldLink RX9 19 "GasVoyages" "air" "LGasVoyages$Air;" ∈ wsX9_warmth := by decide +kernel
set_option maxRecDepth 20000 in
theorem iw9_X9_warmth : ∀ w ∈ u_ws RX9 TX9 8, w ∈ wsX9_warmth := by decide +kernel
theorem mf102_X9_warmth : Cond.fieldLink RX9 102 "GasVoyages$Air" "warmth" "[I" ∈ wsX9_warmth := by decide +kernel
set_option maxRecDepth 20000 in
theorem iw0_X9_warmth : ∀ w ∈ u_ws RX0 TX0 5, w ∈ wsX9_warmth := by decide +kernel
def f_X9_warmth (σ : St) (p1 : Int32) (p2 : Int32) : Option (Int32 × St) := if (f_X9_within p1 0 23) = 0 then (some ((-1000), σ)) else (if (f_X9_within p2 (-20) 20) = 0 then (some ((-1000), σ)) else (Option.bind (aL σ 6 24 p1) fun v5 => Option.bind (aS σ 6 24 p1 p2) fun s6 => some (v5, s6)))
set_option maxRecDepth 100000 in
set_option maxHeartbeats 4000000 in
theorem c_X9_warmth (l : Launch) (G : Gp) (A : Nat → Prop) (σ : St) (p1 : Int32) (p2 : Int32) {r : Int32} {σ' : St} (h : f_X9_warmth σ p1 p2 = some (r, σ')) : Ki l yX9_warmth wsX9_warmth 1 G A [.ref (ad G 0), .int p1, .int p2] σ r σ' := by
  unfold f_X9_warmth at h
  refine r_start (ws := wsX9_warmth) (d := 1) (by decide) rfl [.ref (ad G 0), .int p1, .int p2] (Nat.le_of_ble_eq_true rfl) ?_
  intro p e s m below meth c S hr hlocks hE hw ls hl
  have hl : lv_has ls 4 [(0, .ref (ad G 0)), (1, .int p1), (2, .int p2)] := hl
  obtain ⟨hx, hb, hml, hown, hts⟩ := id S
  refine lv_iload_n hx hb dX9_warmth_0 rfl (lv_at hl 1 rfl) ?_
  refine lv_iconst (v := 0) hx hb dX9_warmth_1 (by decide) ?_
  refine lv_bipush (v := 23) hx hb dX9_warmth_2 (by decide) ?_
  refine r_cz (r_runS (As := [.int p1, .int 0, .int 23]) (rest := []) S hE hw (c_X9_within  l G A σ p1 0 23) (va_cwS 3 hts gX9_warmth_X9_within rfl rfl rfl (by decide +kernel) ⟨Nat.le_of_ble_eq_true rfl, Nat.le_of_ble_eq_true rfl⟩) rfl hl.1 rfl (Nat.le_of_ble_eq_true rfl) ⟨Nat.zero_le _, Nat.zero_le _⟩ dX9_warmth_4) hw (fun H locs hw hb1 => ?_)
  refine lv_if_eq (tgt := 21) hx hb dX9_warmth_7 (by decide) (fun c2 => ?_) (fun c2 => ?_)
  · have h := if_t c2 h
    refine lv_sipush (v := (-1000)) hx hb dX9_warmth_21 (by decide) ?_
    obtain ⟨rfl, rfl⟩ := rt2 h
    exact r_iret S hr hlocks hw dX9_warmth_24
  · have h := if_f c2 h
    refine lv_iload_n hx hb dX9_warmth_10 rfl (lv_at hl 2 rfl) ?_
    refine lv_bipush (v := (-20)) hx hb dX9_warmth_11 (by decide) ?_
    refine lv_bipush (v := 20) hx hb dX9_warmth_13 (by decide) ?_
    refine r_cz (r_runS (As := [.int p2, .int (-20), .int 20]) (rest := []) S hE hw (c_X9_within  l G A σ p2 (-20) 20) (va_cwS 3 hts gX9_warmth_X9_within rfl rfl rfl (by decide +kernel) ⟨Nat.le_of_ble_eq_true rfl, Nat.le_of_ble_eq_true rfl⟩) rfl hl.1 rfl (Nat.le_of_ble_eq_true rfl) ⟨Nat.zero_le _, Nat.zero_le _⟩ dX9_warmth_15) hw (fun H locs hw hb3 => ?_)
    refine lv_if_ne (tgt := 25) hx hb dX9_warmth_18 (by decide) (fun c4 => ?_) (fun c4 => ?_)
    · have h := if_f c4 h
      refine lv_aload_n hx hb dX9_warmth_25 rfl (lv_at hl 0 rfl) ?_
      refine r_gr S hE hw 1 3 iw9_X9_warmth rfl rfl (by decide) rfl (hts _ mf19_X9_warmth) dX9_warmth_26 ?_
      refine r_gr S hE hw 2 6 iw0_X9_warmth rfl rfl (by decide) rfl (hts _ mf102_X9_warmth) dX9_warmth_29 ?_
      refine lv_iload_n hx hb dX9_warmth_32 rfl (lv_at hl 1 rfl) ?_
      obtain ⟨v5, gv5, h⟩ := oB_out h
      refine r_al S hE hw rfl rfl gv5 dX9_warmth_33 ?_
      refine lv_istore_n (lv' := [(3, .int v5), (0, .ref (ad G 0)), (1, .int p1), (2, .int p2)]) hx hb dX9_warmth_34 rfl hl (by decide) rfl (fun ls hl => ?_)
      refine lv_aload_n hx hb dX9_warmth_35 rfl (lv_at hl 1 rfl) ?_
      refine r_gr S hE hw 1 3 iw9_X9_warmth rfl rfl (by decide) rfl (hts _ mf19_X9_warmth) dX9_warmth_36 ?_
      refine r_gr S hE hw 2 6 iw0_X9_warmth rfl rfl (by decide) rfl (hts _ mf102_X9_warmth) dX9_warmth_39 ?_
      refine lv_iload_n hx hb dX9_warmth_42 rfl (lv_at hl 2 rfl) ?_
      refine lv_iload_n hx hb dX9_warmth_43 rfl (lv_at hl 3 rfl) ?_
      obtain ⟨s6, gs6, h⟩ := oB_out h
      refine r_as S hE hw rfl rfl gs6 dX9_warmth_44 (fun H locs hw => ?_)
      refine lv_iload_n hx hb dX9_warmth_45 rfl (lv_at hl 0 rfl) ?_
      obtain ⟨rfl, rfl⟩ := rt2 h
      exact r_iret S hr hlocks hw dX9_warmth_46
    · have h := if_t c4 h
      refine lv_sipush (v := (-1000)) hx hb dX9_warmth_21 (by decide) ?_
      obtain ⟨rfl, rfl⟩ := rt2 h
      exact r_iret S hr hlocks hw dX9_warmth_24

