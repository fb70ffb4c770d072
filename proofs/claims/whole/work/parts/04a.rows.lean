def f_X10_in (p0 : Int32) (p1 : Int32) (p2 : Int32) : Int32 := if p0 < p1 then (0) else (if p2 < p0 then (0) else (1))
set_option maxRecDepth 100000 in
set_option maxHeartbeats 4000000 in
theorem c_X10_in (l : Launch) (G : Gp) (A : Nat → Prop) (σ : St) (p0 : Int32) (p1 : Int32) (p2 : Int32) : Kz l yX10_in wsX10_in 0 G A [.int p0, .int p1, .int p2] σ (f_X10_in p0 p1 p2) σ := by
  obtain ⟨r, h⟩ : ∃ r, f_X10_in p0 p1 p2 = r := ⟨_, rfl⟩
  rw [h]
  unfold f_X10_in at h
  refine r_start (ws := wsX10_in) (d := 0) (by decide) rfl [.int p0, .int p1, .int p2] (Nat.le_of_ble_eq_true rfl) ?_
  intro p e s m below meth c S hr hlocks hE hw ls hl
  have hl : lv_has ls 3 [(0, .int p0), (1, .int p1), (2, .int p2)] := hl
  obtain ⟨hx, hb, hml, hown, hts⟩ := id S
  refine lv_iload_n hx hb dX10_in_0 rfl (lv_at hl 0 rfl) ?_
  refine lv_iload_n hx hb dX10_in_1 rfl (lv_at hl 1 rfl) ?_
  refine lv_icmp_lt (tgt := 14) hx hb dX10_in_2 (by decide) (fun c1 => ?_) (fun c1 => ?_)
  · have h := if_t c1 h
    refine lv_iconst (v := 0) hx hb dX10_in_14 (by decide) ?_
    subst h
    exact r_zret S hr hlocks hw (Or.inl rfl) dX10_in_15
  · have h := if_f c1 h
    refine lv_iload_n hx hb dX10_in_5 rfl (lv_at hl 0 rfl) ?_
    refine lv_iload_n hx hb dX10_in_6 rfl (lv_at hl 2 rfl) ?_
    refine lv_icmp_gt (tgt := 14) hx hb dX10_in_7 (by decide) (fun c2 => ?_) (fun c2 => ?_)
    · have h := if_t c2 h
      refine lv_iconst (v := 0) hx hb dX10_in_14 (by decide) ?_
      subst h
      exact r_zret S hr hlocks hw (Or.inl rfl) dX10_in_15
    · have h := if_f c2 h
      refine lv_iconst (v := 1) hx hb dX10_in_10 (by decide) ?_
      refine lv_goto (tgt := 15) hx hb dX10_in_11 (by decide) ?_
      subst h
      exact r_zret S hr hlocks hw (Or.inr rfl) dX10_in_15


theorem mf7_X10_isCell : Cond.fieldLink RX10 7 "GasVoyagesModel" "wide" "I" ∈ wsX10_isCell := by decide +kernel
set_option maxRecDepth 20000 in
theorem iw10_X10_isCell : ∀ w ∈ u_ws RX10 TX10 43, w ∈ wsX10_isCell := by decide +kernel
theorem mf13_X10_isCell : Cond.fieldLink RX10 13 "GasVoyagesModel" "high" "I" ∈ wsX10_isCell := by decide +kernel
def f_X10_isCell (σ : St) (p1 : Int32) (p2 : Int32) : Int32 := if (f_X10_in p1 0 ((σ.1 72 0) - 1)) = 0 then (0) else (if (f_X10_in p2 0 ((σ.1 72 1) - 1)) = 0 then (0) else (1))
set_option maxRecDepth 100000 in
set_option maxHeartbeats 4000000 in
theorem c_X10_isCell (l : Launch) (G : Gp) (A : Nat → Prop) (σ : St) (p1 : Int32) (p2 : Int32) : Kz l yX10_isCell wsX10_isCell 1 G A [.ref (ad G 72), .int p1, .int p2] σ (f_X10_isCell σ p1 p2) σ := by
  obtain ⟨r, h⟩ : ∃ r, f_X10_isCell σ p1 p2 = r := ⟨_, rfl⟩
  rw [h]
  unfold f_X10_isCell at h
  refine r_start (ws := wsX10_isCell) (d := 1) (by decide) rfl [.ref (ad G 72), .int p1, .int p2] (Nat.le_of_ble_eq_true rfl) ?_
  intro p e s m below meth c S hr hlocks hE hw ls hl
  have hl : lv_has ls 3 [(0, .ref (ad G 72)), (1, .int p1), (2, .int p2)] := hl
  obtain ⟨hx, hb, hml, hown, hts⟩ := id S
  refine lv_iload_n hx hb dX10_isCell_0 rfl (lv_at hl 1 rfl) ?_
  refine lv_iconst (v := 0) hx hb dX10_isCell_1 (by decide) ?_
  refine lv_aload_n hx hb dX10_isCell_2 rfl (lv_at hl 0 rfl) ?_
  refine r_gi S hE hw 0 iw10_X10_isCell rfl rfl (by decide) (hts _ mf7_X10_isCell) dX10_isCell_3 ?_
  refine lv_iconst (v := 1) hx hb dX10_isCell_6 (by decide) ?_
  refine lv_isub hx hb dX10_isCell_7 ?_
  refine r_cz (r_runS (As := [.int p1, .int 0, .int ((σ.1 72 0) - 1)]) (rest := []) S hE hw (c_X10_in  l G A σ p1 0 ((σ.1 72 0) - 1)) (va_cwS 3 hts gX10_isCell_X10_in rfl rfl rfl (by decide +kernel) ⟨Nat.le_of_ble_eq_true rfl, Nat.le_of_ble_eq_true rfl⟩) rfl hl.1 rfl (Nat.le_of_ble_eq_true rfl) ⟨Nat.zero_le _, Nat.zero_le _⟩ dX10_isCell_8) hw (fun H locs hw hb1 => ?_)
  refine lv_if_eq (tgt := 32) hx hb dX10_isCell_11 (by decide) (fun c2 => ?_) (fun c2 => ?_)
  · have h := if_t c2 h
    refine lv_iconst (v := 0) hx hb dX10_isCell_32 (by decide) ?_
    subst h
    exact r_zret S hr hlocks hw (Or.inl rfl) dX10_isCell_33
  · have h := if_f c2 h
    refine lv_iload_n hx hb dX10_isCell_14 rfl (lv_at hl 2 rfl) ?_
    refine lv_iconst (v := 0) hx hb dX10_isCell_15 (by decide) ?_
    refine lv_aload_n hx hb dX10_isCell_16 rfl (lv_at hl 0 rfl) ?_
    refine r_gi S hE hw 1 iw10_X10_isCell rfl rfl (by decide) (hts _ mf13_X10_isCell) dX10_isCell_17 ?_
    refine lv_iconst (v := 1) hx hb dX10_isCell_20 (by decide) ?_
    refine lv_isub hx hb dX10_isCell_21 ?_
    refine r_cz (r_runS (As := [.int p2, .int 0, .int ((σ.1 72 1) - 1)]) (rest := []) S hE hw (c_X10_in  l G A σ p2 0 ((σ.1 72 1) - 1)) (va_cwS 3 hts gX10_isCell_X10_in rfl rfl rfl (by decide +kernel) ⟨Nat.le_of_ble_eq_true rfl, Nat.le_of_ble_eq_true rfl⟩) rfl hl.1 rfl (Nat.le_of_ble_eq_true rfl) ⟨Nat.zero_le _, Nat.zero_le _⟩ dX10_isCell_22) hw (fun H locs hw hb3 => ?_)
    refine lv_if_eq (tgt := 32) hx hb dX10_isCell_25 (by decide) (fun c4 => ?_) (fun c4 => ?_)
    · have h := if_t c4 h
      refine lv_iconst (v := 0) hx hb dX10_isCell_32 (by decide) ?_
      subst h
      exact r_zret S hr hlocks hw (Or.inl rfl) dX10_isCell_33
    · have h := if_f c4 h
      refine lv_iconst (v := 1) hx hb dX10_isCell_28 (by decide) ?_
      refine lv_goto (tgt := 33) hx hb dX10_isCell_29 (by decide) ?_
      subst h
      exact r_zret S hr hlocks hw (Or.inr rfl) dX10_isCell_33


theorem mf112_X10_isFlight : Cond.fieldLink RX10 112 "GasVoyagesModel" "flights" "I" ∈ wsX10_isFlight := by decide +kernel
set_option maxRecDepth 20000 in
theorem iw10_X10_isFlight : ∀ w ∈ u_ws RX10 TX10 43, w ∈ wsX10_isFlight := by decide +kernel
def f_X10_isFlight (σ : St) (p1 : Int32) : Int32 := f_X10_in p1 0 ((σ.1 72 8) - 1)
set_option maxRecDepth 100000 in
set_option maxHeartbeats 4000000 in
theorem c_X10_isFlight (l : Launch) (G : Gp) (A : Nat → Prop) (σ : St) (p1 : Int32) : Kz l yX10_isFlight wsX10_isFlight 1 G A [.ref (ad G 72), .int p1] σ (f_X10_isFlight σ p1) σ := by
  obtain ⟨r, h⟩ : ∃ r, f_X10_isFlight σ p1 = r := ⟨_, rfl⟩
  rw [h]
  unfold f_X10_isFlight at h
  refine r_start (ws := wsX10_isFlight) (d := 1) (by decide) rfl [.ref (ad G 72), .int p1] (Nat.le_of_ble_eq_true rfl) ?_
  intro p e s m below meth c S hr hlocks hE hw ls hl
  have hl : lv_has ls 2 [(0, .ref (ad G 72)), (1, .int p1)] := hl
  obtain ⟨hx, hb, hml, hown, hts⟩ := id S
  refine lv_iload_n hx hb dX10_isFlight_0 rfl (lv_at hl 1 rfl) ?_
  refine lv_iconst (v := 0) hx hb dX10_isFlight_1 (by decide) ?_
  refine lv_aload_n hx hb dX10_isFlight_2 rfl (lv_at hl 0 rfl) ?_
  refine r_gi S hE hw 8 iw10_X10_isFlight rfl rfl (by decide) (hts _ mf112_X10_isFlight) dX10_isFlight_3 ?_
  refine lv_iconst (v := 1) hx hb dX10_isFlight_6 (by decide) ?_
  refine lv_isub hx hb dX10_isFlight_7 ?_
  refine r_cz (r_runS (As := [.int p1, .int 0, .int ((σ.1 72 8) - 1)]) (rest := []) S hE hw (c_X10_in  l G A σ p1 0 ((σ.1 72 8) - 1)) (va_cwS 3 hts gX10_isFlight_X10_in rfl rfl rfl (by decide +kernel) ⟨Nat.le_of_ble_eq_true rfl, Nat.le_of_ble_eq_true rfl⟩) rfl hl.1 rfl (Nat.le_of_ble_eq_true rfl) ⟨Nat.zero_le _, Nat.zero_le _⟩ dX10_isFlight_8) hw (fun H locs hw hb1 => ?_)
  subst h
  exact r_zret S hr hlocks hw hb1 dX10_isFlight_11


theorem mf7_X10_land : Cond.fieldLink RX10 7 "GasVoyagesModel" "wide" "I" ∈ wsX10_land := by decide +kernel
set_option maxRecDepth 20000 in
theorem iw10_X10_land : ∀ w ∈ u_ws RX10 TX10 43, w ∈ wsX10_land := by decide +kernel
theorem mf13_X10_land : Cond.fieldLink RX10 13 "GasVoyagesModel" "high" "I" ∈ wsX10_land := by decide +kernel
theorem mf16_X10_land : Cond.fieldLink RX10 16 "GasVoyagesModel" "kinds" "[I" ∈ wsX10_land := by decide +kernel
theorem mf112_X10_land : Cond.fieldLink RX10 112 "GasVoyagesModel" "flights" "I" ∈ wsX10_land := by decide +kernel
theorem mf115_X10_land : Cond.fieldLink RX10 115 "GasVoyagesModel" "chasers" "I" ∈ wsX10_land := by decide +kernel
def f_X10_land_55 (σ : St) : Option (Int32 × St) := bT (up σ 72 8 0) fun s1 => bT (up s1 72 23 0) fun s2 => some (1, s2)
set_option maxRecDepth 100000 in
set_option maxHeartbeats 4000000 in
theorem w_X10_land_55 {p : Program} {l : Launch} {e : Env} {s : State} {m : MethodId} {args : Array Value} {below : List Frame} {meth : Method} {c : Code} {G : Gp} {A : Nat → Prop} (S : CallFix p m c cX10_land 4 s args wsX10_land RX10) (hr : meth.sig.returnType = (some .int)) (hlocks : meth.locks = false) (hE : Ev G A s) (σ : St) {r : Int32} {σ' : St} (h : f_X10_land_55   σ  = some (r, σ')) {H : Heap} {locs : List Loc} {ls : Array Slot} (hw : Ww G A σ s H locs) (hl : lv_has ls 4 [(0, .ref (ad G 72))]) : W p l e (rmd 1) s m args below meth c H locs 0 0 (Qi below args s G A r σ') (F0 m 55 ls []) := by
  obtain ⟨hx, hb, hml, hown, hts⟩ := id S
  unfold f_X10_land_55 at h
  refine lv_aload_n hx hb dX10_land_55 rfl (lv_at hl 0 rfl) ?_
  refine lv_iconst (v := 0) hx hb dX10_land_56 (by decide) ?_
  obtain ⟨s1, gs1, h⟩ := bT_out h
  refine r_pi S hE hw 8 0 iw10_X10_land tyX10 tyX10_ok nmX10 rfl rfl (by decide) (hts _ mf112_X10_land) rfl (ty := .int) (by decide +kernel) rfl rfl dX10_land_57 (fun H locs hw => ?_)
  rw [← gs1] at hw
  refine lv_aload_n hx hb dX10_land_60 rfl (lv_at hl 0 rfl) ?_
  refine lv_iconst (v := 0) hx hb dX10_land_61 (by decide) ?_
  obtain ⟨s2, gs2, h⟩ := bT_out h
  refine r_pi S hE hw 23 0 iw10_X10_land tyX10 tyX10_ok nmX10 rfl rfl (by decide) (hts _ mf115_X10_land) rfl (ty := .int) (by decide +kernel) rfl rfl dX10_land_62 (fun H locs hw => ?_)
  rw [← gs2] at hw
  refine lv_iconst (v := 1) hx hb dX10_land_65 (by decide) ?_
  obtain ⟨rfl, rfl⟩ := rt2 h
  exact r_iret S hr hlocks hw dX10_land_66

def f_X10_land_35 : Nat → St → Int32 → Option (Int32 × St)
  | 0, _, _ => none
  | n + 1, σ, x3 => if 576 ≤ x3 then (f_X10_land_55 σ) else (Option.bind (aS σ 73 576 x3 0) fun s2 => f_X10_land_35 n s2 (x3 + 1))
set_option maxRecDepth 100000 in
set_option maxHeartbeats 4000000 in
theorem w_X10_land_35 {p : Program} {l : Launch} {e : Env} {s : State} {m : MethodId} {args : Array Value} {below : List Frame} {meth : Method} {c : Code} {G : Gp} {A : Nat → Prop} (S : CallFix p m c cX10_land 4 s args wsX10_land RX10) (hr : meth.sig.returnType = (some .int)) (hlocks : meth.locks = false) (hE : Ev G A s) (n : Nat) (σ : St) (x3 : Int32) {r : Int32} {σ' : St} (h : f_X10_land_35   n σ x3 = some (r, σ')) {H : Heap} {locs : List Loc} {ls : Array Slot} (hw : Ww G A σ s H locs) (hl : lv_has ls 4 [(0, .ref (ad G 72)), (3, .int x3)]) : W p l e (rmd 1) s m args below meth c H locs 0 0 (Qi below args s G A r σ') (F0 m 35 ls []) := by
  obtain ⟨hx, hb, hml, hown, hts⟩ := id S
  induction n generalizing σ x3 r σ' H locs ls with
  | zero => cases h
  | succ n ih =>
    unfold f_X10_land_35 at h
    refine lv_iload_n hx hb dX10_land_35 rfl (lv_at hl 1 rfl) ?_
    refine lv_sipush (v := 576) hx hb dX10_land_36 (by decide) ?_
    refine lv_icmp_ge (tgt := 55) hx hb dX10_land_39 (by decide) (fun c1 => ?_) (fun c1 => ?_)
    · have h := if_t c1 h
      exact w_X10_land_55   S hr hlocks hE   σ  h hw (lv_sub hl [0] rfl)
    · have h := if_f c1 h
      refine lv_aload_n hx hb dX10_land_42 rfl (lv_at hl 0 rfl) ?_
      refine r_gr S hE hw 2 73 iw10_X10_land rfl rfl (by decide) rfl (hts _ mf16_X10_land) dX10_land_43 ?_
      refine lv_iload_n hx hb dX10_land_46 rfl (lv_at hl 1 rfl) ?_
      refine lv_iconst (v := 0) hx hb dX10_land_47 (by decide) ?_
      obtain ⟨s2, gs2, h⟩ := oB_out h
      refine r_as S hE hw rfl rfl gs2 dX10_land_48 (fun H locs hw => ?_)
      refine lv_iinc (v := x3 + 1) (lv' := [(3, .int (x3 + 1)), (0, .ref (ad G 72))]) hx hb dX10_land_49 hl (k := 1) rfl rfl (by decide) rfl (fun ls hl => ?_)
      refine lv_goto (tgt := 35) hx hb dX10_land_52 (by decide) ?_
      exact ih s2 (x3 + 1) h hw (lv_sub hl [1, 0] rfl)

def f_X10_land (σ : St) (p1 : Int32) (p2 : Int32) : Option (Int32 × St) := if (f_X10_in p1 4 24) = 0 then (some ((-2), σ)) else (if (f_X10_in p2 4 24) = 0 then (some ((-2), σ)) else (bT (up σ 72 0 p1) fun s5 => bT (up s5 72 1 p2) fun s6 => f_X10_land_35 10000 s6 0))
set_option maxRecDepth 100000 in
set_option maxHeartbeats 4000000 in
theorem c_X10_land (l : Launch) (G : Gp) (A : Nat → Prop) (σ : St) (p1 : Int32) (p2 : Int32) {r : Int32} {σ' : St} (h : f_X10_land σ p1 p2 = some (r, σ')) : Ki l yX10_land wsX10_land 1 G A [.ref (ad G 72), .int p1, .int p2] σ r σ' := by
  unfold f_X10_land at h
  refine r_start (ws := wsX10_land) (d := 1) (by decide) rfl [.ref (ad G 72), .int p1, .int p2] (Nat.le_of_ble_eq_true rfl) ?_
  intro p e s m below meth c S hr hlocks hE hw ls hl
  have hl : lv_has ls 4 [(0, .ref (ad G 72)), (1, .int p1), (2, .int p2)] := hl
  obtain ⟨hx, hb, hml, hown, hts⟩ := id S
  refine lv_iload_n hx hb dX10_land_0 rfl (lv_at hl 1 rfl) ?_
  refine lv_iconst (v := 4) hx hb dX10_land_1 (by decide) ?_
  refine lv_bipush (v := 24) hx hb dX10_land_2 (by decide) ?_
  refine r_cz (r_runS (As := [.int p1, .int 4, .int 24]) (rest := []) S hE hw (c_X10_in  l G A σ p1 4 24) (va_cwS 3 hts gX10_land_X10_in rfl rfl rfl (by decide +kernel) ⟨Nat.le_of_ble_eq_true rfl, Nat.le_of_ble_eq_true rfl⟩) rfl hl.1 rfl (Nat.le_of_ble_eq_true rfl) ⟨Nat.zero_le _, Nat.zero_le _⟩ dX10_land_4) hw (fun H locs hw hb1 => ?_)
  refine lv_if_eq (tgt := 20) hx hb dX10_land_7 (by decide) (fun c2 => ?_) (fun c2 => ?_)
  · have h := if_t c2 h
    refine lv_bipush (v := (-2)) hx hb dX10_land_20 (by decide) ?_
    obtain ⟨rfl, rfl⟩ := rt2 h
    exact r_iret S hr hlocks hw dX10_land_22
  · have h := if_f c2 h
    refine lv_iload_n hx hb dX10_land_10 rfl (lv_at hl 2 rfl) ?_
    refine lv_iconst (v := 4) hx hb dX10_land_11 (by decide) ?_
    refine lv_bipush (v := 24) hx hb dX10_land_12 (by decide) ?_
    refine r_cz (r_runS (As := [.int p2, .int 4, .int 24]) (rest := []) S hE hw (c_X10_in  l G A σ p2 4 24) (va_cwS 3 hts gX10_land_X10_in rfl rfl rfl (by decide +kernel) ⟨Nat.le_of_ble_eq_true rfl, Nat.le_of_ble_eq_true rfl⟩) rfl hl.1 rfl (Nat.le_of_ble_eq_true rfl) ⟨Nat.zero_le _, Nat.zero_le _⟩ dX10_land_14) hw (fun H locs hw hb3 => ?_)
    refine lv_if_ne (tgt := 23) hx hb dX10_land_17 (by decide) (fun c4 => ?_) (fun c4 => ?_)
    · have h := if_f c4 h
      refine lv_aload_n hx hb dX10_land_23 rfl (lv_at hl 0 rfl) ?_
      refine lv_iload_n hx hb dX10_land_24 rfl (lv_at hl 1 rfl) ?_
      obtain ⟨s5, gs5, h⟩ := bT_out h
      refine r_pi S hE hw 0 p1 iw10_X10_land tyX10 tyX10_ok nmX10 rfl rfl (by decide) (hts _ mf7_X10_land) rfl (ty := .int) (by decide +kernel) rfl rfl dX10_land_25 (fun H locs hw => ?_)
      rw [← gs5] at hw
      refine lv_aload_n hx hb dX10_land_28 rfl (lv_at hl 0 rfl) ?_
      refine lv_iload_n hx hb dX10_land_29 rfl (lv_at hl 2 rfl) ?_
      obtain ⟨s6, gs6, h⟩ := bT_out h
      refine r_pi S hE hw 1 p2 iw10_X10_land tyX10 tyX10_ok nmX10 rfl rfl (by decide) (hts _ mf13_X10_land) rfl (ty := .int) (by decide +kernel) rfl rfl dX10_land_30 (fun H locs hw => ?_)
      rw [← gs6] at hw
      refine lv_iconst (v := 0) hx hb dX10_land_33 (by decide) ?_
      refine lv_istore_n (lv' := [(3, .int 0), (0, .ref (ad G 72)), (1, .int p1), (2, .int p2)]) hx hb dX10_land_34 rfl hl (by decide) rfl (fun ls hl => ?_)
      exact w_X10_land_35   S hr hlocks hE  10000 s6 0 h hw (lv_sub hl [1, 0] rfl)
    · have h := if_t c4 h
      refine lv_bipush (v := (-2)) hx hb dX10_land_20 (by decide) ?_
      obtain ⟨rfl, rfl⟩ := rt2 h
      exact r_iret S hr hlocks hw dX10_land_22


theorem mf115_X10_cell : Cond.fieldLink RX10 115 "GasVoyagesModel" "chasers" "I" ∈ wsX10_cell := by decide +kernel
set_option maxRecDepth 20000 in
theorem iw10_X10_cell : ∀ w ∈ u_ws RX10 TX10 43, w ∈ wsX10_cell := by decide +kernel
theorem mf78_X10_cell : Cond.fieldLink RX10 78 "GasVoyagesModel" "cx" "[I" ∈ wsX10_cell := by decide +kernel
theorem mf81_X10_cell : Cond.fieldLink RX10 81 "GasVoyagesModel" "cy" "[I" ∈ wsX10_cell := by decide +kernel
theorem mf16_X10_cell : Cond.fieldLink RX10 16 "GasVoyagesModel" "kinds" "[I" ∈ wsX10_cell := by decide +kernel
def f_X10_cell_69 (σ : St) (x1 : Int32) (x2 : Int32) (x3 : Int32) : Option (Int32 × St) := Option.bind (aL σ 73 576 ((24 * x2) + x1)) fun v1 => Option.bind (aS σ 73 576 ((24 * x2) + x1) x3) fun s2 => some (v1, s2)
set_option maxRecDepth 100000 in
set_option maxHeartbeats 4000000 in
theorem w_X10_cell_69 {p : Program} {l : Launch} {e : Env} {s : State} {m : MethodId} {args : Array Value} {below : List Frame} {meth : Method} {c : Code} {G : Gp} {A : Nat → Prop} (S : CallFix p m c cX10_cell 5 s args wsX10_cell RX10) (hr : meth.sig.returnType = (some .int)) (hlocks : meth.locks = false) (hE : Ev G A s) (σ : St) (x1 : Int32) (x2 : Int32) (x3 : Int32) {r : Int32} {σ' : St} (h : f_X10_cell_69   σ x1 x2 x3 = some (r, σ')) {H : Heap} {locs : List Loc} {ls : Array Slot} (hw : Ww G A σ s H locs) (hl : lv_has ls 5 [(0, .ref (ad G 72)), (1, .int x1), (2, .int x2), (3, .int x3)]) : W p l e (rmd 2) s m args below meth c H locs 0 0 (Qi below args s G A r σ') (F0 m 69 ls []) := by
  obtain ⟨hx, hb, hml, hown, hts⟩ := id S
  unfold f_X10_cell_69 at h
  refine lv_aload_n hx hb dX10_cell_69 rfl (lv_at hl 0 rfl) ?_
  refine r_gr S hE hw 2 73 iw10_X10_cell rfl rfl (by decide) rfl (hts _ mf16_X10_cell) dX10_cell_70 ?_
  refine lv_bipush (v := 24) hx hb dX10_cell_73 (by decide) ?_
  refine lv_iload_n hx hb dX10_cell_75 rfl (lv_at hl 2 rfl) ?_
  refine lv_imul hx hb dX10_cell_76 ?_
  refine lv_iload_n hx hb dX10_cell_77 rfl (lv_at hl 1 rfl) ?_
  refine lv_iadd hx hb dX10_cell_78 ?_
  obtain ⟨v1, gv1, h⟩ := oB_out h
  refine r_al S hE hw rfl rfl gv1 dX10_cell_79 ?_
  refine lv_istore (lv' := [(4, .int v1), (0, .ref (ad G 72)), (1, .int x1), (2, .int x2), (3, .int x3)]) hx hb dX10_cell_80 hl (by decide) rfl (fun ls hl => ?_)
  refine lv_aload_n hx hb dX10_cell_82 rfl (lv_at hl 1 rfl) ?_
  refine r_gr S hE hw 2 73 iw10_X10_cell rfl rfl (by decide) rfl (hts _ mf16_X10_cell) dX10_cell_83 ?_
  refine lv_bipush (v := 24) hx hb dX10_cell_86 (by decide) ?_
  refine lv_iload_n hx hb dX10_cell_88 rfl (lv_at hl 3 rfl) ?_
  refine lv_imul hx hb dX10_cell_89 ?_
  refine lv_iload_n hx hb dX10_cell_90 rfl (lv_at hl 2 rfl) ?_
  refine lv_iadd hx hb dX10_cell_91 ?_
  refine lv_iload_n hx hb dX10_cell_92 rfl (lv_at hl 4 rfl) ?_
  obtain ⟨s2, gs2, h⟩ := oB_out h
  refine r_as S hE hw rfl rfl gs2 dX10_cell_93 (fun H locs hw => ?_)
  refine lv_iload hx hb dX10_cell_94 (lv_at hl 0 rfl) ?_
  obtain ⟨rfl, rfl⟩ := rt2 h
  exact r_iret S hr hlocks hw dX10_cell_96

def f_X10_cell_24 : Nat → St → Int32 → Int32 → Int32 → Int32 → Option (Int32 × St)
  | 0, _, _, _, _, _ => none
  | n + 1, σ, x1, x2, x3, x4 => if (σ.1 72 23) ≤ x4 then (f_X10_cell_69 σ x1 x2 x3) else (if x3 = 1 then (Option.bind (aL σ 93 4 x4) fun v3 => if v3 = x1 then (Option.bind (aL σ 94 4 x4) fun v5 => if v5 = x2 then (some ((-3), σ)) else (f_X10_cell_24 n σ x1 x2 x3 (x4 + 1))) else (f_X10_cell_24 n σ x1 x2 x3 (x4 + 1))) else (f_X10_cell_69 σ x1 x2 x3))
set_option maxRecDepth 100000 in
set_option maxHeartbeats 4000000 in
theorem w_X10_cell_24 {p : Program} {l : Launch} {e : Env} {s : State} {m : MethodId} {args : Array Value} {below : List Frame} {meth : Method} {c : Code} {G : Gp} {A : Nat → Prop} (S : CallFix p m c cX10_cell 5 s args wsX10_cell RX10) (hr : meth.sig.returnType = (some .int)) (hlocks : meth.locks = false) (hE : Ev G A s) (n : Nat) (σ : St) (x1 : Int32) (x2 : Int32) (x3 : Int32) (x4 : Int32) {r : Int32} {σ' : St} (h : f_X10_cell_24   n σ x1 x2 x3 x4 = some (r, σ')) {H : Heap} {locs : List Loc} {ls : Array Slot} (hw : Ww G A σ s H locs) (hl : lv_has ls 5 [(0, .ref (ad G 72)), (1, .int x1), (2, .int x2), (3, .int x3), (4, .int x4)]) : W p l e (rmd 2) s m args below meth c H locs 0 0 (Qi below args s G A r σ') (F0 m 24 ls []) := by
  obtain ⟨hx, hb, hml, hown, hts⟩ := id S
  induction n generalizing σ x1 x2 x3 x4 r σ' H locs ls with
  | zero => cases h
  | succ n ih =>
    unfold f_X10_cell_24 at h
    refine lv_iload hx hb dX10_cell_24 (lv_at hl 4 rfl) ?_
    refine lv_aload_n hx hb dX10_cell_26 rfl (lv_at hl 0 rfl) ?_
    refine r_gi S hE hw 23 iw10_X10_cell rfl rfl (by decide) (hts _ mf115_X10_cell) dX10_cell_27 ?_
    refine lv_icmp_ge (tgt := 69) hx hb dX10_cell_30 (by decide) (fun c1 => ?_) (fun c1 => ?_)
    · have h := if_t c1 h
      exact w_X10_cell_69   S hr hlocks hE   σ x1 x2 x3 h hw (lv_sub hl [0, 1, 2, 3] rfl)
    · have h := if_f c1 h
      refine lv_iload_n hx hb dX10_cell_33 rfl (lv_at hl 3 rfl) ?_
      refine lv_iconst (v := 1) hx hb dX10_cell_34 (by decide) ?_
      refine lv_icmp_ne (tgt := 69) hx hb dX10_cell_35 (by decide) (fun c2 => ?_) (fun c2 => ?_)
      · have h := if_f c2 h
        exact w_X10_cell_69   S hr hlocks hE   σ x1 x2 x3 h hw (lv_sub hl [0, 1, 2, 3] rfl)
      · have h := if_t c2 h
        refine lv_aload_n hx hb dX10_cell_38 rfl (lv_at hl 0 rfl) ?_
        refine r_gr S hE hw 24 93 iw10_X10_cell rfl rfl (by decide) rfl (hts _ mf78_X10_cell) dX10_cell_39 ?_
        refine lv_iload hx hb dX10_cell_42 (lv_at hl 4 rfl) ?_
        obtain ⟨v3, gv3, h⟩ := oB_out h
        refine r_al S hE hw rfl rfl gv3 dX10_cell_44 ?_
        refine lv_iload_n hx hb dX10_cell_45 rfl (lv_at hl 1 rfl) ?_
        refine lv_icmp_ne (tgt := 63) hx hb dX10_cell_46 (by decide) (fun c4 => ?_) (fun c4 => ?_)
        · have h := if_f c4 h
          refine lv_iinc (v := x4 + 1) (lv' := [(4, .int (x4 + 1)), (0, .ref (ad G 72)), (1, .int x1), (2, .int x2), (3, .int x3)]) hx hb dX10_cell_63 hl (k := 4) rfl rfl (by decide) rfl (fun ls hl => ?_)
          refine lv_goto (tgt := 24) hx hb dX10_cell_66 (by decide) ?_
          exact ih σ x1 x2 x3 (x4 + 1) h hw (lv_sub hl [1, 2, 3, 4, 0] rfl)
        · have h := if_t c4 h
          refine lv_aload_n hx hb dX10_cell_49 rfl (lv_at hl 0 rfl) ?_
          refine r_gr S hE hw 25 94 iw10_X10_cell rfl rfl (by decide) rfl (hts _ mf81_X10_cell) dX10_cell_50 ?_
          refine lv_iload hx hb dX10_cell_53 (lv_at hl 4 rfl) ?_
          obtain ⟨v5, gv5, h⟩ := oB_out h
          refine r_al S hE hw rfl rfl gv5 dX10_cell_55 ?_
          refine lv_iload_n hx hb dX10_cell_56 rfl (lv_at hl 2 rfl) ?_
          refine lv_icmp_ne (tgt := 63) hx hb dX10_cell_57 (by decide) (fun c6 => ?_) (fun c6 => ?_)
          · have h := if_f c6 h
            refine lv_iinc (v := x4 + 1) (lv' := [(4, .int (x4 + 1)), (0, .ref (ad G 72)), (1, .int x1), (2, .int x2), (3, .int x3)]) hx hb dX10_cell_63 hl (k := 4) rfl rfl (by decide) rfl (fun ls hl => ?_)
            refine lv_goto (tgt := 24) hx hb dX10_cell_66 (by decide) ?_
            exact ih σ x1 x2 x3 (x4 + 1) h hw (lv_sub hl [1, 2, 3, 4, 0] rfl)
          · have h := if_t c6 h
            refine lv_bipush (v := (-3)) hx hb dX10_cell_60 (by decide) ?_
            obtain ⟨rfl, rfl⟩ := rt2 h
            exact r_iret S hr hlocks hw dX10_cell_62

def f_X10_cell (σ : St) (p1 : Int32) (p2 : Int32) (p3 : Int32) : Option (Int32 × St) := if (f_X10_isCell σ p1 p2) = 0 then (some ((-2), σ)) else (if (f_X10_in p3 0 2) = 0 then (some ((-2), σ)) else (f_X10_cell_24 10000 σ p1 p2 p3 0))
set_option maxRecDepth 100000 in
set_option maxHeartbeats 4000000 in
theorem c_X10_cell (l : Launch) (G : Gp) (A : Nat → Prop) (σ : St) (p1 : Int32) (p2 : Int32) (p3 : Int32) {r : Int32} {σ' : St} (h : f_X10_cell σ p1 p2 p3 = some (r, σ')) : Ki l yX10_cell wsX10_cell 2 G A [.ref (ad G 72), .int p1, .int p2, .int p3] σ r σ' := by
  unfold f_X10_cell at h
  refine r_start (ws := wsX10_cell) (d := 2) (by decide) rfl [.ref (ad G 72), .int p1, .int p2, .int p3] (Nat.le_of_ble_eq_true rfl) ?_
  intro p e s m below meth c S hr hlocks hE hw ls hl
  have hl : lv_has ls 5 [(0, .ref (ad G 72)), (1, .int p1), (2, .int p2), (3, .int p3)] := hl
  obtain ⟨hx, hb, hml, hown, hts⟩ := id S
  refine lv_aload_n hx hb dX10_cell_0 rfl (lv_at hl 0 rfl) ?_
  refine lv_iload_n hx hb dX10_cell_1 rfl (lv_at hl 1 rfl) ?_
  refine lv_iload_n hx hb dX10_cell_2 rfl (lv_at hl 2 rfl) ?_
  refine r_cz (r_runV (k := 72) (ci := 10) (As := [.int p1, .int p2]) (rest := []) S hE hw (c_X10_isCell  l G A σ p1 p2) (cwV 2 hts gX10_cell_X10_isCell rfl rfl rfl (by decide +kernel) ⟨Nat.le_of_ble_eq_true rfl, Nat.le_of_ble_eq_true rfl⟩) rfl rfl (by decide) rfl hl.1 rfl (Nat.le_of_ble_eq_true rfl) ⟨Nat.zero_le _, Nat.zero_le _⟩ dX10_cell_3) hw (fun H locs hw hb1 => ?_)
  refine lv_if_eq (tgt := 18) hx hb dX10_cell_6 (by decide) (fun c2 => ?_) (fun c2 => ?_)
  · have h := if_t c2 h
    refine lv_bipush (v := (-2)) hx hb dX10_cell_18 (by decide) ?_
    obtain ⟨rfl, rfl⟩ := rt2 h
    exact r_iret S hr hlocks hw dX10_cell_20
  · have h := if_f c2 h
    refine lv_iload_n hx hb dX10_cell_9 rfl (lv_at hl 3 rfl) ?_
    refine lv_iconst (v := 0) hx hb dX10_cell_10 (by decide) ?_
    refine lv_iconst (v := 2) hx hb dX10_cell_11 (by decide) ?_
    refine r_cz (r_runS (As := [.int p3, .int 0, .int 2]) (rest := []) S hE hw (c_X10_in  l G A σ p3 0 2) (va_cwS 3 hts gX10_cell_X10_in rfl rfl rfl (by decide +kernel) ⟨Nat.le_of_ble_eq_true rfl, Nat.le_of_ble_eq_true rfl⟩) rfl hl.1 rfl (Nat.le_of_ble_eq_true rfl) ⟨Nat.zero_le _, Nat.zero_le _⟩ dX10_cell_12) hw (fun H locs hw hb3 => ?_)
    refine lv_if_ne (tgt := 21) hx hb dX10_cell_15 (by decide) (fun c4 => ?_) (fun c4 => ?_)
    · have h := if_f c4 h
      refine lv_iconst (v := 0) hx hb dX10_cell_21 (by decide) ?_
      refine lv_istore (lv' := [(4, .int 0), (0, .ref (ad G 72)), (1, .int p1), (2, .int p2), (3, .int p3)]) hx hb dX10_cell_22 hl (by decide) rfl (fun ls hl => ?_)
      exact w_X10_cell_24   S hr hlocks hE  10000 σ p1 p2 p3 0 h hw (lv_sub hl [1, 2, 3, 4, 0] rfl)
    · have h := if_t c4 h
      refine lv_bipush (v := (-2)) hx hb dX10_cell_18 (by decide) ?_
      obtain ⟨rfl, rfl⟩ := rt2 h
      exact r_iret S hr hlocks hw dX10_cell_20


theorem mf20_X10_level : Cond.fieldLink RX10 20 "GasVoyagesModel" "density" "[I" ∈ wsX10_level := by decide +kernel
set_option maxRecDepth 20000 in
theorem iw10_X10_level : ∀ w ∈ u_ws RX10 TX10 43, w ∈ wsX10_level := by decide +kernel
theorem mf23_X10_level : Cond.fieldLink RX10 23 "GasVoyagesModel" "fullness" "[I" ∈ wsX10_level := by decide +kernel
def f_X10_level (σ : St) (p1 : Int32) (p2 : Int32) (p3 : Int32) : Option (Int32 × St) := if (f_X10_in p1 0 7) = 0 then (some ((-2), σ)) else (if (f_X10_in p2 0 50) = 0 then (some ((-2), σ)) else (if (f_X10_in p3 0 500) = 0 then (some ((-2), σ)) else (Option.bind (aS σ 74 8 p1 p2) fun s7 => Option.bind (aS s7 75 8 p1 p3) fun s8 => some (1, s8))))
set_option maxRecDepth 100000 in
set_option maxHeartbeats 4000000 in
theorem c_X10_level (l : Launch) (G : Gp) (A : Nat → Prop) (σ : St) (p1 : Int32) (p2 : Int32) (p3 : Int32) {r : Int32} {σ' : St} (h : f_X10_level σ p1 p2 p3 = some (r, σ')) : Ki l yX10_level wsX10_level 1 G A [.ref (ad G 72), .int p1, .int p2, .int p3] σ r σ' := by
  unfold f_X10_level at h
  refine r_start (ws := wsX10_level) (d := 1) (by decide) rfl [.ref (ad G 72), .int p1, .int p2, .int p3] (Nat.le_of_ble_eq_true rfl) ?_
  intro p e s m below meth c S hr hlocks hE hw ls hl
  have hl : lv_has ls 4 [(0, .ref (ad G 72)), (1, .int p1), (2, .int p2), (3, .int p3)] := hl
  obtain ⟨hx, hb, hml, hown, hts⟩ := id S
  refine lv_iload_n hx hb dX10_level_0 rfl (lv_at hl 1 rfl) ?_
  refine lv_iconst (v := 0) hx hb dX10_level_1 (by decide) ?_
  refine lv_bipush (v := 7) hx hb dX10_level_2 (by decide) ?_
  refine r_cz (r_runS (As := [.int p1, .int 0, .int 7]) (rest := []) S hE hw (c_X10_in  l G A σ p1 0 7) (va_cwS 3 hts gX10_level_X10_in rfl rfl rfl (by decide +kernel) ⟨Nat.le_of_ble_eq_true rfl, Nat.le_of_ble_eq_true rfl⟩) rfl hl.1 rfl (Nat.le_of_ble_eq_true rfl) ⟨Nat.zero_le _, Nat.zero_le _⟩ dX10_level_4) hw (fun H locs hw hb1 => ?_)
  refine lv_if_eq (tgt := 31) hx hb dX10_level_7 (by decide) (fun c2 => ?_) (fun c2 => ?_)
  · have h := if_t c2 h
    refine lv_bipush (v := (-2)) hx hb dX10_level_31 (by decide) ?_
    obtain ⟨rfl, rfl⟩ := rt2 h
    exact r_iret S hr hlocks hw dX10_level_33
  · have h := if_f c2 h
    refine lv_iload_n hx hb dX10_level_10 rfl (lv_at hl 2 rfl) ?_
    refine lv_iconst (v := 0) hx hb dX10_level_11 (by decide) ?_
    refine lv_bipush (v := 50) hx hb dX10_level_12 (by decide) ?_
    refine r_cz (r_runS (As := [.int p2, .int 0, .int 50]) (rest := []) S hE hw (c_X10_in  l G A σ p2 0 50) (va_cwS 3 hts gX10_level_X10_in rfl rfl rfl (by decide +kernel) ⟨Nat.le_of_ble_eq_true rfl, Nat.le_of_ble_eq_true rfl⟩) rfl hl.1 rfl (Nat.le_of_ble_eq_true rfl) ⟨Nat.zero_le _, Nat.zero_le _⟩ dX10_level_14) hw (fun H locs hw hb3 => ?_)
    refine lv_if_eq (tgt := 31) hx hb dX10_level_17 (by decide) (fun c4 => ?_) (fun c4 => ?_)
    · have h := if_t c4 h
      refine lv_bipush (v := (-2)) hx hb dX10_level_31 (by decide) ?_
      obtain ⟨rfl, rfl⟩ := rt2 h
      exact r_iret S hr hlocks hw dX10_level_33
    · have h := if_f c4 h
      refine lv_iload_n hx hb dX10_level_20 rfl (lv_at hl 3 rfl) ?_
      refine lv_iconst (v := 0) hx hb dX10_level_21 (by decide) ?_
      refine lv_sipush (v := 500) hx hb dX10_level_22 (by decide) ?_
      refine r_cz (r_runS (As := [.int p3, .int 0, .int 500]) (rest := []) S hE hw (c_X10_in  l G A σ p3 0 500) (va_cwS 3 hts gX10_level_X10_in rfl rfl rfl (by decide +kernel) ⟨Nat.le_of_ble_eq_true rfl, Nat.le_of_ble_eq_true rfl⟩) rfl hl.1 rfl (Nat.le_of_ble_eq_true rfl) ⟨Nat.zero_le _, Nat.zero_le _⟩ dX10_level_25) hw (fun H locs hw hb5 => ?_)
      refine lv_if_ne (tgt := 34) hx hb dX10_level_28 (by decide) (fun c6 => ?_) (fun c6 => ?_)
      · have h := if_f c6 h
        refine lv_aload_n hx hb dX10_level_34 rfl (lv_at hl 0 rfl) ?_
        refine r_gr S hE hw 3 74 iw10_X10_level rfl rfl (by decide) rfl (hts _ mf20_X10_level) dX10_level_35 ?_
        refine lv_iload_n hx hb dX10_level_38 rfl (lv_at hl 1 rfl) ?_
        refine lv_iload_n hx hb dX10_level_39 rfl (lv_at hl 2 rfl) ?_
        obtain ⟨s7, gs7, h⟩ := oB_out h
        refine r_as S hE hw rfl rfl gs7 dX10_level_40 (fun H locs hw => ?_)
        refine lv_aload_n hx hb dX10_level_41 rfl (lv_at hl 0 rfl) ?_
        refine r_gr S hE hw 4 75 iw10_X10_level rfl rfl (by decide) rfl (hts _ mf23_X10_level) dX10_level_42 ?_
        refine lv_iload_n hx hb dX10_level_45 rfl (lv_at hl 1 rfl) ?_
        refine lv_iload_n hx hb dX10_level_46 rfl (lv_at hl 3 rfl) ?_
        obtain ⟨s8, gs8, h⟩ := oB_out h
        refine r_as S hE hw rfl rfl gs8 dX10_level_47 (fun H locs hw => ?_)
        refine lv_iconst (v := 1) hx hb dX10_level_48 (by decide) ?_
        obtain ⟨rfl, rfl⟩ := rt2 h
        exact r_iret S hr hlocks hw dX10_level_49
      · have h := if_t c6 h
        refine lv_bipush (v := (-2)) hx hb dX10_level_31 (by decide) ?_
        obtain ⟨rfl, rfl⟩ := rt2 h
        exact r_iret S hr hlocks hw dX10_level_33


theorem mf26_X10_warmth : Cond.fieldLink RX10 26 "GasVoyagesModel" "warmth" "[I" ∈ wsX10_warmth := by decide +kernel
set_option maxRecDepth 20000 in
theorem iw10_X10_warmth : ∀ w ∈ u_ws RX10 TX10 43, w ∈ wsX10_warmth := by decide +kernel
def f_X10_warmth (σ : St) (p1 : Int32) (p2 : Int32) : Option (Int32 × St) := if (f_X10_in p1 0 23) = 0 then (some ((-1000), σ)) else (if (f_X10_in p2 (-20) 20) = 0 then (some ((-1000), σ)) else (Option.bind (aL σ 76 24 p1) fun v5 => Option.bind (aS σ 76 24 p1 p2) fun s6 => some (v5, s6)))
set_option maxRecDepth 100000 in
set_option maxHeartbeats 4000000 in
theorem c_X10_warmth (l : Launch) (G : Gp) (A : Nat → Prop) (σ : St) (p1 : Int32) (p2 : Int32) {r : Int32} {σ' : St} (h : f_X10_warmth σ p1 p2 = some (r, σ')) : Ki l yX10_warmth wsX10_warmth 1 G A [.ref (ad G 72), .int p1, .int p2] σ r σ' := by
  unfold f_X10_warmth at h
  refine r_start (ws := wsX10_warmth) (d := 1) (by decide) rfl [.ref (ad G 72), .int p1, .int p2] (Nat.le_of_ble_eq_true rfl) ?_
  intro p e s m below meth c S hr hlocks hE hw ls hl
  have hl : lv_has ls 4 [(0, .ref (ad G 72)), (1, .int p1), (2, .int p2)] := hl
  obtain ⟨hx, hb, hml, hown, hts⟩ := id S
  refine lv_iload_n hx hb dX10_warmth_0 rfl (lv_at hl 1 rfl) ?_
  refine lv_iconst (v := 0) hx hb dX10_warmth_1 (by decide) ?_
  refine lv_bipush (v := 23) hx hb dX10_warmth_2 (by decide) ?_
  refine r_cz (r_runS (As := [.int p1, .int 0, .int 23]) (rest := []) S hE hw (c_X10_in  l G A σ p1 0 23) (va_cwS 3 hts gX10_warmth_X10_in rfl rfl rfl (by decide +kernel) ⟨Nat.le_of_ble_eq_true rfl, Nat.le_of_ble_eq_true rfl⟩) rfl hl.1 rfl (Nat.le_of_ble_eq_true rfl) ⟨Nat.zero_le _, Nat.zero_le _⟩ dX10_warmth_4) hw (fun H locs hw hb1 => ?_)
  refine lv_if_eq (tgt := 21) hx hb dX10_warmth_7 (by decide) (fun c2 => ?_) (fun c2 => ?_)
  · have h := if_t c2 h
    refine lv_sipush (v := (-1000)) hx hb dX10_warmth_21 (by decide) ?_
    obtain ⟨rfl, rfl⟩ := rt2 h
    exact r_iret S hr hlocks hw dX10_warmth_24
  · have h := if_f c2 h
    refine lv_iload_n hx hb dX10_warmth_10 rfl (lv_at hl 2 rfl) ?_
    refine lv_bipush (v := (-20)) hx hb dX10_warmth_11 (by decide) ?_
    refine lv_bipush (v := 20) hx hb dX10_warmth_13 (by decide) ?_
    refine r_cz (r_runS (As := [.int p2, .int (-20), .int 20]) (rest := []) S hE hw (c_X10_in  l G A σ p2 (-20) 20) (va_cwS 3 hts gX10_warmth_X10_in rfl rfl rfl (by decide +kernel) ⟨Nat.le_of_ble_eq_true rfl, Nat.le_of_ble_eq_true rfl⟩) rfl hl.1 rfl (Nat.le_of_ble_eq_true rfl) ⟨Nat.zero_le _, Nat.zero_le _⟩ dX10_warmth_15) hw (fun H locs hw hb3 => ?_)
    refine lv_if_ne (tgt := 25) hx hb dX10_warmth_18 (by decide) (fun c4 => ?_) (fun c4 => ?_)
    · have h := if_f c4 h
      refine lv_aload_n hx hb dX10_warmth_25 rfl (lv_at hl 0 rfl) ?_
      refine r_gr S hE hw 5 76 iw10_X10_warmth rfl rfl (by decide) rfl (hts _ mf26_X10_warmth) dX10_warmth_26 ?_
      refine lv_iload_n hx hb dX10_warmth_29 rfl (lv_at hl 1 rfl) ?_
      obtain ⟨v5, gv5, h⟩ := oB_out h
      refine r_al S hE hw rfl rfl gv5 dX10_warmth_30 ?_
      refine lv_istore_n (lv' := [(3, .int v5), (0, .ref (ad G 72)), (1, .int p1), (2, .int p2)]) hx hb dX10_warmth_31 rfl hl (by decide) rfl (fun ls hl => ?_)
      refine lv_aload_n hx hb dX10_warmth_32 rfl (lv_at hl 1 rfl) ?_
      refine r_gr S hE hw 5 76 iw10_X10_warmth rfl rfl (by decide) rfl (hts _ mf26_X10_warmth) dX10_warmth_33 ?_
      refine lv_iload_n hx hb dX10_warmth_36 rfl (lv_at hl 2 rfl) ?_
      refine lv_iload_n hx hb dX10_warmth_37 rfl (lv_at hl 3 rfl) ?_
      obtain ⟨s6, gs6, h⟩ := oB_out h
      refine r_as S hE hw rfl rfl gs6 dX10_warmth_38 (fun H locs hw => ?_)
      refine lv_iload_n hx hb dX10_warmth_39 rfl (lv_at hl 0 rfl) ?_
      obtain ⟨rfl, rfl⟩ := rt2 h
      exact r_iret S hr hlocks hw dX10_warmth_40
    · have h := if_t c4 h
      refine lv_sipush (v := (-1000)) hx hb dX10_warmth_21 (by decide) ?_
      obtain ⟨rfl, rfl⟩ := rt2 h
      exact r_iret S hr hlocks hw dX10_warmth_24


def f_X10_windAt (p0 : Int32) (p1 : Int32) (p2 : Int32) : Int32 := ((192 * p0) + (24 * p1)) + p2
set_option maxRecDepth 100000 in
set_option maxHeartbeats 4000000 in
theorem c_X10_windAt (l : Launch) (G : Gp) (A : Nat → Prop) (σ : St) (p0 : Int32) (p1 : Int32) (p2 : Int32) : Ki l yX10_windAt wsX10_windAt 0 G A [.int p0, .int p1, .int p2] σ (f_X10_windAt p0 p1 p2) σ := by
  obtain ⟨r, h⟩ : ∃ r, f_X10_windAt p0 p1 p2 = r := ⟨_, rfl⟩
  rw [h]
  unfold f_X10_windAt at h
  refine r_start (ws := wsX10_windAt) (d := 0) (by decide) rfl [.int p0, .int p1, .int p2] (Nat.le_of_ble_eq_true rfl) ?_
  intro p e s m below meth c S hr hlocks hE hw ls hl
  have hl : lv_has ls 3 [(0, .int p0), (1, .int p1), (2, .int p2)] := hl
  obtain ⟨hx, hb, hml, hown, hts⟩ := id S
  refine lv_sipush (v := 192) hx hb dX10_windAt_0 (by decide) ?_
  refine lv_iload_n hx hb dX10_windAt_3 rfl (lv_at hl 0 rfl) ?_
  refine lv_imul hx hb dX10_windAt_4 ?_
  refine lv_bipush (v := 24) hx hb dX10_windAt_5 (by decide) ?_
  refine lv_iload_n hx hb dX10_windAt_7 rfl (lv_at hl 1 rfl) ?_
  refine lv_imul hx hb dX10_windAt_8 ?_
  refine lv_iadd hx hb dX10_windAt_9 ?_
  refine lv_iload_n hx hb dX10_windAt_10 rfl (lv_at hl 2 rfl) ?_
  refine lv_iadd hx hb dX10_windAt_11 ?_
  subst h
  exact r_iret S hr hlocks hw dX10_windAt_12


theorem mf29_X10_wind : Cond.fieldLink RX10 29 "GasVoyagesModel" "windX" "[I" ∈ wsX10_wind := by decide +kernel
set_option maxRecDepth 20000 in
theorem iw10_X10_wind : ∀ w ∈ u_ws RX10 TX10 43, w ∈ wsX10_wind := by decide +kernel
theorem mf32_X10_wind : Cond.fieldLink RX10 32 "GasVoyagesModel" "windY" "[I" ∈ wsX10_wind := by decide +kernel
def f_X10_wind_101 (kn59 : St → Int32 → Int32 → Int32 → Int32 → Int32 → Int32 → Option (Int32 × St)) (σ : St) (x1 : Int32) (x2 : Int32) (x4 : Int32) (x5 : Int32) (x6 : Int32) (x7 : Int32) (y0 : Int32) : Option (Int32 × St) := Option.bind (aS σ 78 384 (f_X10_windAt y0 x2 x7) x6) fun s1 => kn59 s1 x1 x2 x4 x5 x6 (x7 + 1)
set_option maxRecDepth 100000 in
set_option maxHeartbeats 4000000 in
theorem w_X10_wind_101 {p : Program} {l : Launch} {e : Env} {s : State} {m : MethodId} {args : Array Value} {below : List Frame} {meth : Method} {c : Code} {G : Gp} {A : Nat → Prop} (S : CallFix p m c cX10_wind 8 s args wsX10_wind RX10) (hr : meth.sig.returnType = (some .int)) (hlocks : meth.locks = false) (hE : Ev G A s) {kn59 : St → Int32 → Int32 → Int32 → Int32 → Int32 → Int32 → Option (Int32 × St)} (hkn59 : ∀ (σ : St) (x1 : Int32) (x2 : Int32) (x4 : Int32) (x5 : Int32) (x6 : Int32) (x7 : Int32) (r : Int32) (σ' : St), kn59 σ x1 x2 x4 x5 x6 x7 = some (r, σ') → ∀ (H : Heap) (locs : List Loc) (ls : Array Slot), Ww G A σ s H locs → lv_has ls 8 [(0, .ref (ad G 72)), (1, .int x1), (2, .int x2), (4, .int x4), (5, .int x5), (6, .int x6), (7, .int x7)] → W p l e (rmd 1) s m args below meth c H locs 0 0 (Qi below args s G A r σ') (F0 m 59 ls [])) (σ : St) (x1 : Int32) (x2 : Int32) (x4 : Int32) (x5 : Int32) (x6 : Int32) (x7 : Int32) (y0 : Int32) {r : Int32} {σ' : St} (h : f_X10_wind_101  kn59 σ x1 x2 x4 x5 x6 x7 y0 = some (r, σ')) {H : Heap} {locs : List Loc} {ls : Array Slot} (hw : Ww G A σ s H locs) (hl : lv_has ls 8 [(0, .ref (ad G 72)), (1, .int x1), (2, .int x2), (4, .int x4), (5, .int x5), (6, .int x6), (7, .int x7)]) : W p l e (rmd 1) s m args below meth c H locs 0 0 (Qi below args s G A r σ') (F0 m 101 ls [.int y0, .ref (ad G 78)]) := by
  obtain ⟨hx, hb, hml, hown, hts⟩ := id S
  unfold f_X10_wind_101 at h
  refine lv_iload_n hx hb dX10_wind_101 rfl (lv_at hl 2 rfl) ?_
  refine lv_iload hx hb dX10_wind_102 (lv_at hl 6 rfl) ?_
  refine r_ci (r_runS (As := [.int y0, .int x2, .int x7]) (rest := [.ref (ad G 78)]) S hE hw (c_X10_windAt  l G A σ y0 x2 x7) (va_cwS 3 hts gX10_wind_X10_windAt rfl rfl rfl (by decide +kernel) ⟨Nat.le_of_ble_eq_true rfl, Nat.le_of_ble_eq_true rfl⟩) rfl hl.1 rfl (Nat.le_of_ble_eq_true rfl) ⟨Nat.zero_le _, Nat.zero_le _⟩ dX10_wind_104) hw (fun H locs hw => ?_)
  refine lv_iload hx hb dX10_wind_107 (lv_at hl 5 rfl) ?_
  obtain ⟨s1, gs1, h⟩ := oB_out h
  refine r_as S hE hw rfl rfl gs1 dX10_wind_109 (fun H locs hw => ?_)
  refine lv_iinc (v := x7 + 1) (lv' := [(7, .int (x7 + 1)), (0, .ref (ad G 72)), (1, .int x1), (2, .int x2), (4, .int x4), (5, .int x5), (6, .int x6)]) hx hb dX10_wind_110 hl (k := 6) rfl rfl (by decide) rfl (fun ls hl => ?_)
  refine lv_goto (tgt := 59) hx hb dX10_wind_113 (by decide) ?_
  exact hkn59 s1 x1 x2 x4 x5 x6 (x7 + 1) _ _ h _ _ _ hw (lv_sub hl [1, 2, 3, 4, 5, 6, 0] rfl)

def f_X10_wind_79 (kn59 : St → Int32 → Int32 → Int32 → Int32 → Int32 → Int32 → Option (Int32 × St)) (σ : St) (x1 : Int32) (x2 : Int32) (x4 : Int32) (x5 : Int32) (x6 : Int32) (x7 : Int32) (y0 : Int32) : Option (Int32 × St) := Option.bind (aS σ 77 384 (f_X10_windAt y0 x2 x7) x5) fun s1 => if x1 = 0 then (f_X10_wind_101 kn59 s1 x1 x2 x4 x5 x6 x7 1) else (f_X10_wind_101 kn59 s1 x1 x2 x4 x5 x6 x7 0)
set_option maxRecDepth 100000 in
set_option maxHeartbeats 4000000 in
theorem w_X10_wind_79 {p : Program} {l : Launch} {e : Env} {s : State} {m : MethodId} {args : Array Value} {below : List Frame} {meth : Method} {c : Code} {G : Gp} {A : Nat → Prop} (S : CallFix p m c cX10_wind 8 s args wsX10_wind RX10) (hr : meth.sig.returnType = (some .int)) (hlocks : meth.locks = false) (hE : Ev G A s) {kn59 : St → Int32 → Int32 → Int32 → Int32 → Int32 → Int32 → Option (Int32 × St)} (hkn59 : ∀ (σ : St) (x1 : Int32) (x2 : Int32) (x4 : Int32) (x5 : Int32) (x6 : Int32) (x7 : Int32) (r : Int32) (σ' : St), kn59 σ x1 x2 x4 x5 x6 x7 = some (r, σ') → ∀ (H : Heap) (locs : List Loc) (ls : Array Slot), Ww G A σ s H locs → lv_has ls 8 [(0, .ref (ad G 72)), (1, .int x1), (2, .int x2), (4, .int x4), (5, .int x5), (6, .int x6), (7, .int x7)] → W p l e (rmd 1) s m args below meth c H locs 0 0 (Qi below args s G A r σ') (F0 m 59 ls [])) (σ : St) (x1 : Int32) (x2 : Int32) (x4 : Int32) (x5 : Int32) (x6 : Int32) (x7 : Int32) (y0 : Int32) {r : Int32} {σ' : St} (h : f_X10_wind_79  kn59 σ x1 x2 x4 x5 x6 x7 y0 = some (r, σ')) {H : Heap} {locs : List Loc} {ls : Array Slot} (hw : Ww G A σ s H locs) (hl : lv_has ls 8 [(0, .ref (ad G 72)), (1, .int x1), (2, .int x2), (4, .int x4), (5, .int x5), (6, .int x6), (7, .int x7)]) : W p l e (rmd 1) s m args below meth c H locs 0 0 (Qi below args s G A r σ') (F0 m 79 ls [.int y0, .ref (ad G 77)]) := by
  obtain ⟨hx, hb, hml, hown, hts⟩ := id S
  unfold f_X10_wind_79 at h
  refine lv_iload_n hx hb dX10_wind_79 rfl (lv_at hl 2 rfl) ?_
  refine lv_iload hx hb dX10_wind_80 (lv_at hl 6 rfl) ?_
  refine r_ci (r_runS (As := [.int y0, .int x2, .int x7]) (rest := [.ref (ad G 77)]) S hE hw (c_X10_windAt  l G A σ y0 x2 x7) (va_cwS 3 hts gX10_wind_X10_windAt rfl rfl rfl (by decide +kernel) ⟨Nat.le_of_ble_eq_true rfl, Nat.le_of_ble_eq_true rfl⟩) rfl hl.1 rfl (Nat.le_of_ble_eq_true rfl) ⟨Nat.zero_le _, Nat.zero_le _⟩ dX10_wind_82) hw (fun H locs hw => ?_)
  refine lv_iload hx hb dX10_wind_85 (lv_at hl 4 rfl) ?_
  obtain ⟨s1, gs1, h⟩ := oB_out h
  refine r_as S hE hw rfl rfl gs1 dX10_wind_87 (fun H locs hw => ?_)
  refine lv_aload_n hx hb dX10_wind_88 rfl (lv_at hl 0 rfl) ?_
  refine r_gr S hE hw 7 78 iw10_X10_wind rfl rfl (by decide) rfl (hts _ mf32_X10_wind) dX10_wind_89 ?_
  refine lv_iload_n hx hb dX10_wind_92 rfl (lv_at hl 1 rfl) ?_
  refine lv_if_eq (tgt := 100) hx hb dX10_wind_93 (by decide) (fun c2 => ?_) (fun c2 => ?_)
  · have h := if_t c2 h
    refine lv_iconst (v := 1) hx hb dX10_wind_100 (by decide) ?_
    exact w_X10_wind_101   S hr hlocks hE hkn59  s1 x1 x2 x4 x5 x6 x7 1 h hw (lv_sub hl [0, 1, 2, 3, 4, 5, 6] rfl)
  · have h := if_f c2 h
    refine lv_iconst (v := 0) hx hb dX10_wind_96 (by decide) ?_
    refine lv_goto (tgt := 101) hx hb dX10_wind_97 (by decide) ?_
    exact w_X10_wind_101   S hr hlocks hE hkn59  s1 x1 x2 x4 x5 x6 x7 0 h hw (lv_sub hl [0, 1, 2, 3, 4, 5, 6] rfl)

def f_X10_wind_59 : Nat → St → Int32 → Int32 → Int32 → Int32 → Int32 → Int32 → Option (Int32 × St)
  | 0, _, _, _, _, _, _, _ => none
  | n + 1, σ, x1, x2, x4, x5, x6, x7 => if x4 < x7 then (some (1, σ)) else (if x1 = 0 then (f_X10_wind_79 (fun σ x1 x2 x4 x5 x6 x7 => f_X10_wind_59 n σ x1 x2 x4 x5 x6 x7) σ x1 x2 x4 x5 x6 x7 1) else (f_X10_wind_79 (fun σ x1 x2 x4 x5 x6 x7 => f_X10_wind_59 n σ x1 x2 x4 x5 x6 x7) σ x1 x2 x4 x5 x6 x7 0))
set_option maxRecDepth 100000 in
set_option maxHeartbeats 4000000 in
theorem w_X10_wind_59 {p : Program} {l : Launch} {e : Env} {s : State} {m : MethodId} {args : Array Value} {below : List Frame} {meth : Method} {c : Code} {G : Gp} {A : Nat → Prop} (S : CallFix p m c cX10_wind 8 s args wsX10_wind RX10) (hr : meth.sig.returnType = (some .int)) (hlocks : meth.locks = false) (hE : Ev G A s) (n : Nat) (σ : St) (x1 : Int32) (x2 : Int32) (x4 : Int32) (x5 : Int32) (x6 : Int32) (x7 : Int32) {r : Int32} {σ' : St} (h : f_X10_wind_59   n σ x1 x2 x4 x5 x6 x7 = some (r, σ')) {H : Heap} {locs : List Loc} {ls : Array Slot} (hw : Ww G A σ s H locs) (hl : lv_has ls 8 [(0, .ref (ad G 72)), (1, .int x1), (2, .int x2), (4, .int x4), (5, .int x5), (6, .int x6), (7, .int x7)]) : W p l e (rmd 1) s m args below meth c H locs 0 0 (Qi below args s G A r σ') (F0 m 59 ls []) := by
  obtain ⟨hx, hb, hml, hown, hts⟩ := id S
  induction n generalizing σ x1 x2 x4 x5 x6 x7 r σ' H locs ls with
  | zero => cases h
  | succ n ih =>
    unfold f_X10_wind_59 at h
    refine lv_iload hx hb dX10_wind_59 (lv_at hl 6 rfl) ?_
    refine lv_iload hx hb dX10_wind_61 (lv_at hl 3 rfl) ?_
    refine lv_icmp_gt (tgt := 116) hx hb dX10_wind_63 (by decide) (fun c1 => ?_) (fun c1 => ?_)
    · have h := if_t c1 h
      refine lv_iconst (v := 1) hx hb dX10_wind_116 (by decide) ?_
      obtain ⟨rfl, rfl⟩ := rt2 h
      exact r_iret S hr hlocks hw dX10_wind_117
    · have h := if_f c1 h
      refine lv_aload_n hx hb dX10_wind_66 rfl (lv_at hl 0 rfl) ?_
      refine r_gr S hE hw 6 77 iw10_X10_wind rfl rfl (by decide) rfl (hts _ mf29_X10_wind) dX10_wind_67 ?_
      refine lv_iload_n hx hb dX10_wind_70 rfl (lv_at hl 1 rfl) ?_
      refine lv_if_eq (tgt := 78) hx hb dX10_wind_71 (by decide) (fun c2 => ?_) (fun c2 => ?_)
      · have h := if_t c2 h
        refine lv_iconst (v := 1) hx hb dX10_wind_78 (by decide) ?_
        exact w_X10_wind_79   S hr hlocks hE (fun σ x1 x2 x4 x5 x6 x7  _ _ h _ _ _ hw hl => ih σ x1 x2 x4 x5 x6 x7  h hw hl)  σ x1 x2 x4 x5 x6 x7 1 h hw (lv_sub hl [0, 1, 2, 3, 4, 5, 6] rfl)
      · have h := if_f c2 h
        refine lv_iconst (v := 0) hx hb dX10_wind_74 (by decide) ?_
        refine lv_goto (tgt := 79) hx hb dX10_wind_75 (by decide) ?_
        exact w_X10_wind_79   S hr hlocks hE (fun σ x1 x2 x4 x5 x6 x7  _ _ h _ _ _ hw hl => ih σ x1 x2 x4 x5 x6 x7  h hw hl)  σ x1 x2 x4 x5 x6 x7 0 h hw (lv_sub hl [0, 1, 2, 3, 4, 5, 6] rfl)

def f_X10_wind (σ : St) (p1 : Int32) (p2 : Int32) (p3 : Int32) (p4 : Int32) (p5 : Int32) (p6 : Int32) : Option (Int32 × St) := if (f_X10_in p2 1 7) = 0 then (some ((-2), σ)) else (if (f_X10_in p3 0 23) = 0 then (some ((-2), σ)) else (if (f_X10_in p4 p3 23) = 0 then (some ((-2), σ)) else (if (f_X10_in p5 (-2) 2) = 0 then (some ((-2), σ)) else (if (f_X10_in p6 (-2) 2) = 0 then (some ((-2), σ)) else (f_X10_wind_59 10000 σ p1 p2 p4 p5 p6 p3)))))
set_option maxRecDepth 100000 in
set_option maxHeartbeats 4000000 in
theorem c_X10_wind (l : Launch) (G : Gp) (A : Nat → Prop) (σ : St) (p1 : Int32) (p2 : Int32) (p3 : Int32) (p4 : Int32) (p5 : Int32) (p6 : Int32) {r : Int32} {σ' : St} (h : f_X10_wind σ p1 p2 p3 p4 p5 p6 = some (r, σ')) : Ki l yX10_wind wsX10_wind 1 G A [.ref (ad G 72), .int p1, .int p2, .int p3, .int p4, .int p5, .int p6] σ r σ' := by
  unfold f_X10_wind at h
  refine r_start (ws := wsX10_wind) (d := 1) (by decide) rfl [.ref (ad G 72), .int p1, .int p2, .int p3, .int p4, .int p5, .int p6] (Nat.le_of_ble_eq_true rfl) ?_
  intro p e s m below meth c S hr hlocks hE hw ls hl
  have hl : lv_has ls 8 [(0, .ref (ad G 72)), (1, .int p1), (2, .int p2), (3, .int p3), (4, .int p4), (5, .int p5), (6, .int p6)] := hl
  obtain ⟨hx, hb, hml, hown, hts⟩ := id S
  refine lv_iload_n hx hb dX10_wind_0 rfl (lv_at hl 2 rfl) ?_
  refine lv_iconst (v := 1) hx hb dX10_wind_1 (by decide) ?_
  refine lv_bipush (v := 7) hx hb dX10_wind_2 (by decide) ?_
  refine r_cz (r_runS (As := [.int p2, .int 1, .int 7]) (rest := []) S hE hw (c_X10_in  l G A σ p2 1 7) (va_cwS 3 hts gX10_wind_X10_in rfl rfl rfl (by decide +kernel) ⟨Nat.le_of_ble_eq_true rfl, Nat.le_of_ble_eq_true rfl⟩) rfl hl.1 rfl (Nat.le_of_ble_eq_true rfl) ⟨Nat.zero_le _, Nat.zero_le _⟩ dX10_wind_4) hw (fun H locs hw hb1 => ?_)
  refine lv_if_eq (tgt := 53) hx hb dX10_wind_7 (by decide) (fun c2 => ?_) (fun c2 => ?_)
  · have h := if_t c2 h
    refine lv_bipush (v := (-2)) hx hb dX10_wind_53 (by decide) ?_
    obtain ⟨rfl, rfl⟩ := rt2 h
    exact r_iret S hr hlocks hw dX10_wind_55
  · have h := if_f c2 h
    refine lv_iload_n hx hb dX10_wind_10 rfl (lv_at hl 3 rfl) ?_
    refine lv_iconst (v := 0) hx hb dX10_wind_11 (by decide) ?_
    refine lv_bipush (v := 23) hx hb dX10_wind_12 (by decide) ?_
    refine r_cz (r_runS (As := [.int p3, .int 0, .int 23]) (rest := []) S hE hw (c_X10_in  l G A σ p3 0 23) (va_cwS 3 hts gX10_wind_X10_in rfl rfl rfl (by decide +kernel) ⟨Nat.le_of_ble_eq_true rfl, Nat.le_of_ble_eq_true rfl⟩) rfl hl.1 rfl (Nat.le_of_ble_eq_true rfl) ⟨Nat.zero_le _, Nat.zero_le _⟩ dX10_wind_14) hw (fun H locs hw hb3 => ?_)
    refine lv_if_eq (tgt := 53) hx hb dX10_wind_17 (by decide) (fun c4 => ?_) (fun c4 => ?_)
    · have h := if_t c4 h
      refine lv_bipush (v := (-2)) hx hb dX10_wind_53 (by decide) ?_
      obtain ⟨rfl, rfl⟩ := rt2 h
      exact r_iret S hr hlocks hw dX10_wind_55
    · have h := if_f c4 h
      refine lv_iload hx hb dX10_wind_20 (lv_at hl 4 rfl) ?_
      refine lv_iload_n hx hb dX10_wind_22 rfl (lv_at hl 3 rfl) ?_
      refine lv_bipush (v := 23) hx hb dX10_wind_23 (by decide) ?_
      refine r_cz (r_runS (As := [.int p4, .int p3, .int 23]) (rest := []) S hE hw (c_X10_in  l G A σ p4 p3 23) (va_cwS 3 hts gX10_wind_X10_in rfl rfl rfl (by decide +kernel) ⟨Nat.le_of_ble_eq_true rfl, Nat.le_of_ble_eq_true rfl⟩) rfl hl.1 rfl (Nat.le_of_ble_eq_true rfl) ⟨Nat.zero_le _, Nat.zero_le _⟩ dX10_wind_25) hw (fun H locs hw hb5 => ?_)
      refine lv_if_eq (tgt := 53) hx hb dX10_wind_28 (by decide) (fun c6 => ?_) (fun c6 => ?_)
      · have h := if_t c6 h
        refine lv_bipush (v := (-2)) hx hb dX10_wind_53 (by decide) ?_
        obtain ⟨rfl, rfl⟩ := rt2 h
        exact r_iret S hr hlocks hw dX10_wind_55
      · have h := if_f c6 h
        refine lv_iload hx hb dX10_wind_31 (lv_at hl 5 rfl) ?_
        refine lv_bipush (v := (-2)) hx hb dX10_wind_33 (by decide) ?_
        refine lv_iconst (v := 2) hx hb dX10_wind_35 (by decide) ?_
        refine r_cz (r_runS (As := [.int p5, .int (-2), .int 2]) (rest := []) S hE hw (c_X10_in  l G A σ p5 (-2) 2) (va_cwS 3 hts gX10_wind_X10_in rfl rfl rfl (by decide +kernel) ⟨Nat.le_of_ble_eq_true rfl, Nat.le_of_ble_eq_true rfl⟩) rfl hl.1 rfl (Nat.le_of_ble_eq_true rfl) ⟨Nat.zero_le _, Nat.zero_le _⟩ dX10_wind_36) hw (fun H locs hw hb7 => ?_)
        refine lv_if_eq (tgt := 53) hx hb dX10_wind_39 (by decide) (fun c8 => ?_) (fun c8 => ?_)
        · have h := if_t c8 h
          refine lv_bipush (v := (-2)) hx hb dX10_wind_53 (by decide) ?_
          obtain ⟨rfl, rfl⟩ := rt2 h
          exact r_iret S hr hlocks hw dX10_wind_55
        · have h := if_f c8 h
          refine lv_iload hx hb dX10_wind_42 (lv_at hl 6 rfl) ?_
          refine lv_bipush (v := (-2)) hx hb dX10_wind_44 (by decide) ?_
          refine lv_iconst (v := 2) hx hb dX10_wind_46 (by decide) ?_
          refine r_cz (r_runS (As := [.int p6, .int (-2), .int 2]) (rest := []) S hE hw (c_X10_in  l G A σ p6 (-2) 2) (va_cwS 3 hts gX10_wind_X10_in rfl rfl rfl (by decide +kernel) ⟨Nat.le_of_ble_eq_true rfl, Nat.le_of_ble_eq_true rfl⟩) rfl hl.1 rfl (Nat.le_of_ble_eq_true rfl) ⟨Nat.zero_le _, Nat.zero_le _⟩ dX10_wind_47) hw (fun H locs hw hb9 => ?_)
          refine lv_if_ne (tgt := 56) hx hb dX10_wind_50 (by decide) (fun c10 => ?_) (fun c10 => ?_)
          · have h := if_f c10 h
            refine lv_iload_n hx hb dX10_wind_56 rfl (lv_at hl 3 rfl) ?_
            refine lv_istore (lv' := [(7, .int p3), (0, .ref (ad G 72)), (1, .int p1), (2, .int p2), (3, .int p3), (4, .int p4), (5, .int p5), (6, .int p6)]) hx hb dX10_wind_57 hl (by decide) rfl (fun ls hl => ?_)
            exact w_X10_wind_59   S hr hlocks hE  10000 σ p1 p2 p4 p5 p6 p3 h hw (lv_sub hl [1, 2, 3, 5, 6, 7, 0] rfl)
          · have h := if_t c10 h
            refine lv_bipush (v := (-2)) hx hb dX10_wind_53 (by decide) ?_
            obtain ⟨rfl, rfl⟩ := rt2 h
            exact r_iret S hr hlocks hw dX10_wind_55


theorem mf29_X10_led : Cond.fieldLink RX10 29 "GasVoyagesModel" "windX" "[I" ∈ wsX10_led := by decide +kernel
set_option maxRecDepth 20000 in
theorem iw10_X10_led : ∀ w ∈ u_ws RX10 TX10 43, w ∈ wsX10_led := by decide +kernel
theorem mf32_X10_led : Cond.fieldLink RX10 32 "GasVoyagesModel" "windY" "[I" ∈ wsX10_led := by decide +kernel
def f_X10_led (σ : St) (p1 : Int32) (p2 : Int32) (p3 : Int32) (p4 : Int32) (p5 : Int32) : Option Int32 := Option.bind (aL σ 77 384 (f_X10_windAt p1 p2 p3)) fun v1 => Option.bind (aL σ 78 384 (f_X10_windAt p1 p2 p3)) fun v2 => if (f_X10_isCell σ (p4 + v1) (p5 + v2)) = 0 then (some ((24 * p5) + p4)) else (Option.bind (aL σ 78 384 (f_X10_windAt p1 p2 p3)) fun v5 => Option.bind (aL σ 77 384 (f_X10_windAt p1 p2 p3)) fun v6 => some (((24 * (p5 + v5)) + p4) + v6))
set_option maxRecDepth 100000 in
set_option maxHeartbeats 4000000 in
theorem c_X10_led (l : Launch) (G : Gp) (A : Nat → Prop) (σ : St) (p1 : Int32) (p2 : Int32) (p3 : Int32) (p4 : Int32) (p5 : Int32) {r : Int32} (h : f_X10_led σ p1 p2 p3 p4 p5 = some r) : Ki l yX10_led wsX10_led 2 G A [.ref (ad G 72), .int p1, .int p2, .int p3, .int p4, .int p5] σ r σ := by
  unfold f_X10_led at h
  refine r_start (ws := wsX10_led) (d := 2) (by decide) rfl [.ref (ad G 72), .int p1, .int p2, .int p3, .int p4, .int p5] (Nat.le_of_ble_eq_true rfl) ?_
  intro p e s m below meth c S hr hlocks hE hw ls hl
  have hl : lv_has ls 7 [(0, .ref (ad G 72)), (1, .int p1), (2, .int p2), (3, .int p3), (4, .int p4), (5, .int p5)] := hl
  obtain ⟨hx, hb, hml, hown, hts⟩ := id S
  refine lv_iload_n hx hb dX10_led_0 rfl (lv_at hl 1 rfl) ?_
  refine lv_iload_n hx hb dX10_led_1 rfl (lv_at hl 2 rfl) ?_
  refine lv_iload_n hx hb dX10_led_2 rfl (lv_at hl 3 rfl) ?_
  refine r_ci (r_runS (As := [.int p1, .int p2, .int p3]) (rest := []) S hE hw (c_X10_windAt  l G A σ p1 p2 p3) (va_cwS 3 hts gX10_led_X10_windAt rfl rfl rfl (by decide +kernel) ⟨Nat.le_of_ble_eq_true rfl, Nat.le_of_ble_eq_true rfl⟩) rfl hl.1 rfl (Nat.le_of_ble_eq_true rfl) ⟨Nat.zero_le _, Nat.zero_le _⟩ dX10_led_3) hw (fun H locs hw => ?_)
  refine lv_istore (lv' := [(6, .int (f_X10_windAt p1 p2 p3)), (0, .ref (ad G 72)), (1, .int p1), (2, .int p2), (3, .int p3), (4, .int p4), (5, .int p5)]) hx hb dX10_led_6 hl (by decide) rfl (fun ls hl => ?_)
  refine lv_aload_n hx hb dX10_led_8 rfl (lv_at hl 1 rfl) ?_
  refine lv_iload hx hb dX10_led_9 (lv_at hl 5 rfl) ?_
  refine lv_aload_n hx hb dX10_led_11 rfl (lv_at hl 1 rfl) ?_
  refine r_gr S hE hw 6 77 iw10_X10_led rfl rfl (by decide) rfl (hts _ mf29_X10_led) dX10_led_12 ?_
  refine lv_iload hx hb dX10_led_15 (lv_at hl 0 rfl) ?_
  obtain ⟨v1, gv1, h⟩ := oB_out h
  refine r_al S hE hw rfl rfl gv1 dX10_led_17 ?_
  refine lv_iadd hx hb dX10_led_18 ?_
  refine lv_iload hx hb dX10_led_19 (lv_at hl 6 rfl) ?_
  refine lv_aload_n hx hb dX10_led_21 rfl (lv_at hl 1 rfl) ?_
  refine r_gr S hE hw 7 78 iw10_X10_led rfl rfl (by decide) rfl (hts _ mf32_X10_led) dX10_led_22 ?_
  refine lv_iload hx hb dX10_led_25 (lv_at hl 0 rfl) ?_
  obtain ⟨v2, gv2, h⟩ := oB_out h
  refine r_al S hE hw rfl rfl gv2 dX10_led_27 ?_
  refine lv_iadd hx hb dX10_led_28 ?_
  refine r_cz (r_runV (k := 72) (ci := 10) (As := [.int (p4 + v1), .int (p5 + v2)]) (rest := []) S hE hw (c_X10_isCell  l G A σ (p4 + v1) (p5 + v2)) (cwV 2 hts gX10_led_X10_isCell rfl rfl rfl (by decide +kernel) ⟨Nat.le_of_ble_eq_true rfl, Nat.le_of_ble_eq_true rfl⟩) rfl rfl (by decide) rfl hl.1 rfl (Nat.le_of_ble_eq_true rfl) ⟨Nat.zero_le _, Nat.zero_le _⟩ dX10_led_29) hw (fun H locs hw hb3 => ?_)
  refine lv_if_eq (tgt := 62) hx hb dX10_led_32 (by decide) (fun c4 => ?_) (fun c4 => ?_)
  · have h := if_t c4 h
    refine lv_bipush (v := 24) hx hb dX10_led_62 (by decide) ?_
    refine lv_iload hx hb dX10_led_64 (lv_at hl 6 rfl) ?_
    refine lv_imul hx hb dX10_led_66 ?_
    refine lv_iload hx hb dX10_led_67 (lv_at hl 5 rfl) ?_
    refine lv_iadd hx hb dX10_led_69 ?_
    obtain rfl := Option.some.inj h
    exact r_iret S hr hlocks hw dX10_led_70
  · have h := if_f c4 h
    refine lv_bipush (v := 24) hx hb dX10_led_35 (by decide) ?_
    refine lv_iload hx hb dX10_led_37 (lv_at hl 6 rfl) ?_
    refine lv_aload_n hx hb dX10_led_39 rfl (lv_at hl 1 rfl) ?_
    refine r_gr S hE hw 7 78 iw10_X10_led rfl rfl (by decide) rfl (hts _ mf32_X10_led) dX10_led_40 ?_
    refine lv_iload hx hb dX10_led_43 (lv_at hl 0 rfl) ?_
    obtain ⟨v5, gv5, h⟩ := oB_out h
    refine r_al S hE hw rfl rfl gv5 dX10_led_45 ?_
    refine lv_iadd hx hb dX10_led_46 ?_
    refine lv_imul hx hb dX10_led_47 ?_
    refine lv_iload hx hb dX10_led_48 (lv_at hl 5 rfl) ?_
    refine lv_iadd hx hb dX10_led_50 ?_
    refine lv_aload_n hx hb dX10_led_51 rfl (lv_at hl 1 rfl) ?_
    refine r_gr S hE hw 6 77 iw10_X10_led rfl rfl (by decide) rfl (hts _ mf29_X10_led) dX10_led_52 ?_
    refine lv_iload hx hb dX10_led_55 (lv_at hl 0 rfl) ?_
    obtain ⟨v6, gv6, h⟩ := oB_out h
    refine r_al S hE hw rfl rfl gv6 dX10_led_57 ?_
    refine lv_iadd hx hb dX10_led_58 ?_
    refine lv_goto (tgt := 70) hx hb dX10_led_59 (by decide) ?_
    obtain rfl := Option.some.inj h
    exact r_iret S hr hlocks hw dX10_led_70


theorem mf129_X10_tick : Cond.fieldLink RX10 129 "GasVoyagesModel" "nowGas" "I" ∈ wsX10_tick := by decide +kernel
set_option maxRecDepth 20000 in
theorem iw10_X10_tick : ∀ w ∈ u_ws RX10 TX10 43, w ∈ wsX10_tick := by decide +kernel
theorem mf126_X10_tick : Cond.fieldLink RX10 126 "GasVoyagesModel" "nowBallast" "I" ∈ wsX10_tick := by decide +kernel
theorem mf20_X10_tick : Cond.fieldLink RX10 20 "GasVoyagesModel" "density" "[I" ∈ wsX10_tick := by decide +kernel
theorem mf132_X10_tick : Cond.fieldLink RX10 132 "GasVoyagesModel" "nowLevel" "I" ∈ wsX10_tick := by decide +kernel
theorem mf26_X10_tick : Cond.fieldLink RX10 26 "GasVoyagesModel" "warmth" "[I" ∈ wsX10_tick := by decide +kernel
theorem mf23_X10_tick : Cond.fieldLink RX10 23 "GasVoyagesModel" "fullness" "[I" ∈ wsX10_tick := by decide +kernel
theorem mf135_X10_tick : Cond.fieldLink RX10 135 "GasVoyagesModel" "nowGone" "I" ∈ wsX10_tick := by decide +kernel
theorem mf138_X10_tick : Cond.fieldLink RX10 138 "GasVoyagesModel" "nowX" "I" ∈ wsX10_tick := by decide +kernel
theorem mf141_X10_tick : Cond.fieldLink RX10 141 "GasVoyagesModel" "nowY" "I" ∈ wsX10_tick := by decide +kernel
def f_X10_tick_200 (σ : St) (x1 : Int32) (x2 : Int32) : Option St := if (σ.1 72 31) ≤ 0 then (some σ) else (Option.bind (f_X10_led σ x1 (σ.1 72 31) x2 (σ.1 72 29) (σ.1 72 30)) fun v2 => bT (up σ 72 29 (v2 - v2 / 24 * 24)) fun s3 => bT (up s3 72 30 (v2 / 24)) fun s4 => some s4)
set_option maxRecDepth 100000 in
set_option maxHeartbeats 4000000 in
theorem w_X10_tick_200 {p : Program} {l : Launch} {e : Env} {s : State} {m : MethodId} {args : Array Value} {below : List Frame} {meth : Method} {c : Code} {G : Gp} {A : Nat → Prop} (S : CallFix p m c cX10_tick 9 s args wsX10_tick RX10) (hr : meth.sig.returnType = none) (hlocks : meth.locks = false) (hE : Ev G A s) (σ : St) (x1 : Int32) (x2 : Int32) {σ' : St} (h : f_X10_tick_200   σ x1 x2 = some σ') {H : Heap} {locs : List Loc} {ls : Array Slot} (hw : Ww G A σ s H locs) (hl : lv_has ls 9 [(0, .ref (ad G 72)), (1, .int x1), (2, .int x2)]) : W p l e (rmd 3) s m args below meth c H locs 0 0 (Qv below args s G A σ') (F0 m 200 ls []) := by
  obtain ⟨hx, hb, hml, hown, hts⟩ := id S
  unfold f_X10_tick_200 at h
  refine lv_aload_n hx hb dX10_tick_200 rfl (lv_at hl 0 rfl) ?_
  refine r_gi S hE hw 31 iw10_X10_tick rfl rfl (by decide) (hts _ mf132_X10_tick) dX10_tick_201 ?_
  refine lv_if_le (tgt := 245) hx hb dX10_tick_204 (by decide) (fun c1 => ?_) (fun c1 => ?_)
  · have h := if_t c1 h
    obtain rfl := Option.some.inj h
    exact r_vret S hr hlocks hw dX10_tick_245
  · have h := if_f c1 h
    refine lv_aload_n hx hb dX10_tick_207 rfl (lv_at hl 0 rfl) ?_
    refine lv_iload_n hx hb dX10_tick_208 rfl (lv_at hl 1 rfl) ?_
    refine lv_aload_n hx hb dX10_tick_209 rfl (lv_at hl 0 rfl) ?_
    refine r_gi S hE hw 31 iw10_X10_tick rfl rfl (by decide) (hts _ mf132_X10_tick) dX10_tick_210 ?_
    refine lv_iload_n hx hb dX10_tick_213 rfl (lv_at hl 2 rfl) ?_
    refine lv_aload_n hx hb dX10_tick_214 rfl (lv_at hl 0 rfl) ?_
    refine r_gi S hE hw 29 iw10_X10_tick rfl rfl (by decide) (hts _ mf138_X10_tick) dX10_tick_215 ?_
    refine lv_aload_n hx hb dX10_tick_218 rfl (lv_at hl 0 rfl) ?_
    refine r_gi S hE hw 30 iw10_X10_tick rfl rfl (by decide) (hts _ mf141_X10_tick) dX10_tick_219 ?_
    obtain ⟨v2, gv2, h⟩ := oB_out h
    refine r_ci (r_runV (k := 72) (ci := 10) (As := [.int x1, .int (σ.1 72 31), .int x2, .int (σ.1 72 29), .int (σ.1 72 30)]) (rest := []) S hE hw (c_X10_led  l G A σ x1 (σ.1 72 31) x2 (σ.1 72 29) (σ.1 72 30) gv2) (cwV 5 hts gX10_tick_X10_led rfl rfl rfl (by decide +kernel) ⟨Nat.le_of_ble_eq_true rfl, Nat.le_of_ble_eq_true rfl⟩) rfl rfl (by decide) rfl hl.1 rfl (Nat.le_of_ble_eq_true rfl) ⟨Nat.zero_le _, Nat.zero_le _⟩ dX10_tick_222) hw (fun H locs hw => ?_)
    refine lv_istore (lv' := [(8, .int v2), (0, .ref (ad G 72)), (1, .int x1), (2, .int x2)]) hx hb dX10_tick_225 hl (by decide) rfl (fun ls hl => ?_)
    refine lv_aload_n hx hb dX10_tick_227 rfl (lv_at hl 1 rfl) ?_
    refine lv_iload hx hb dX10_tick_228 (lv_at hl 0 rfl) ?_
    refine lv_bipush (v := 24) hx hb dX10_tick_230 (by decide) ?_
    refine lv_irem hx hb dX10_tick_232 (by decide) ?_
    obtain ⟨s3, gs3, h⟩ := bT_out h
    refine r_pi S hE hw 29 (v2 - v2 / 24 * 24) iw10_X10_tick tyX10 tyX10_ok nmX10 rfl rfl (by decide) (hts _ mf138_X10_tick) rfl (ty := .int) (by decide +kernel) rfl rfl dX10_tick_233 (fun H locs hw => ?_)
    rw [← gs3] at hw
    refine lv_aload_n hx hb dX10_tick_236 rfl (lv_at hl 1 rfl) ?_
    refine lv_iload hx hb dX10_tick_237 (lv_at hl 0 rfl) ?_
    refine lv_bipush (v := 24) hx hb dX10_tick_239 (by decide) ?_
    refine lv_idiv hx hb dX10_tick_241 (by decide) ?_
    obtain ⟨s4, gs4, h⟩ := bT_out h
    refine r_pi S hE hw 30 (v2 / 24) iw10_X10_tick tyX10 tyX10_ok nmX10 rfl rfl (by decide) (hts _ mf141_X10_tick) rfl (ty := .int) (by decide +kernel) rfl rfl dX10_tick_242 (fun H locs hw => ?_)
    rw [← gs4] at hw
    obtain rfl := Option.some.inj h
    exact r_vret S hr hlocks hw dX10_tick_245

def f_X10_tick_148 (σ : St) (x1 : Int32) (x2 : Int32) : Option St := Option.bind (aL σ 75 8 (σ.1 72 31)) fun v1 => if (σ.1 72 32) ≤ v1 then (f_X10_tick_200 σ x1 x2) else (Option.bind (aL σ 75 8 (σ.1 72 31)) fun v3 => bT (up σ 72 34 ((σ.1 72 34) + ((σ.1 72 32) - v3))) fun s4 => Option.bind (aL s4 75 8 (s4.1 72 31)) fun v5 => bT (up s4 72 32 v5) fun s6 => f_X10_tick_200 s6 x1 x2)
set_option maxRecDepth 100000 in
set_option maxHeartbeats 4000000 in
theorem w_X10_tick_148 {p : Program} {l : Launch} {e : Env} {s : State} {m : MethodId} {args : Array Value} {below : List Frame} {meth : Method} {c : Code} {G : Gp} {A : Nat → Prop} (S : CallFix p m c cX10_tick 9 s args wsX10_tick RX10) (hr : meth.sig.returnType = none) (hlocks : meth.locks = false) (hE : Ev G A s) (σ : St) (x1 : Int32) (x2 : Int32) {σ' : St} (h : f_X10_tick_148   σ x1 x2 = some σ') {H : Heap} {locs : List Loc} {ls : Array Slot} (hw : Ww G A σ s H locs) (hl : lv_has ls 9 [(0, .ref (ad G 72)), (1, .int x1), (2, .int x2)]) : W p l e (rmd 3) s m args below meth c H locs 0 0 (Qv below args s G A σ') (F0 m 148 ls []) := by
  obtain ⟨hx, hb, hml, hown, hts⟩ := id S
  unfold f_X10_tick_148 at h
  refine lv_aload_n hx hb dX10_tick_148 rfl (lv_at hl 0 rfl) ?_
  refine r_gi S hE hw 32 iw10_X10_tick rfl rfl (by decide) (hts _ mf129_X10_tick) dX10_tick_149 ?_
  refine lv_aload_n hx hb dX10_tick_152 rfl (lv_at hl 0 rfl) ?_
  refine r_gr S hE hw 4 75 iw10_X10_tick rfl rfl (by decide) rfl (hts _ mf23_X10_tick) dX10_tick_153 ?_
  refine lv_aload_n hx hb dX10_tick_156 rfl (lv_at hl 0 rfl) ?_
  refine r_gi S hE hw 31 iw10_X10_tick rfl rfl (by decide) (hts _ mf132_X10_tick) dX10_tick_157 ?_
  obtain ⟨v1, gv1, h⟩ := oB_out h
  refine r_al S hE hw rfl rfl gv1 dX10_tick_160 ?_
  refine lv_icmp_le (tgt := 200) hx hb dX10_tick_161 (by decide) (fun c2 => ?_) (fun c2 => ?_)
  · have h := if_t c2 h
    exact w_X10_tick_200   S hr hlocks hE   σ x1 x2 h hw (lv_sub hl [0, 1, 2] rfl)
  · have h := if_f c2 h
    refine lv_aload_n hx hb dX10_tick_164 rfl (lv_at hl 0 rfl) ?_
    refine lv_dup hx hb dX10_tick_165 rfl ?_
    refine r_gi S hE hw 34 iw10_X10_tick rfl rfl (by decide) (hts _ mf135_X10_tick) dX10_tick_166 ?_
    refine lv_aload_n hx hb dX10_tick_169 rfl (lv_at hl 0 rfl) ?_
    refine r_gi S hE hw 32 iw10_X10_tick rfl rfl (by decide) (hts _ mf129_X10_tick) dX10_tick_170 ?_
    refine lv_aload_n hx hb dX10_tick_173 rfl (lv_at hl 0 rfl) ?_
    refine r_gr S hE hw 4 75 iw10_X10_tick rfl rfl (by decide) rfl (hts _ mf23_X10_tick) dX10_tick_174 ?_
    refine lv_aload_n hx hb dX10_tick_177 rfl (lv_at hl 0 rfl) ?_
    refine r_gi S hE hw 31 iw10_X10_tick rfl rfl (by decide) (hts _ mf132_X10_tick) dX10_tick_178 ?_
    obtain ⟨v3, gv3, h⟩ := oB_out h
    refine r_al S hE hw rfl rfl gv3 dX10_tick_181 ?_
    refine lv_isub hx hb dX10_tick_182 ?_
    refine lv_iadd hx hb dX10_tick_183 ?_
    obtain ⟨s4, gs4, h⟩ := bT_out h
    refine r_pi S hE hw 34 ((σ.1 72 34) + ((σ.1 72 32) - v3)) iw10_X10_tick tyX10 tyX10_ok nmX10 rfl rfl (by decide) (hts _ mf135_X10_tick) rfl (ty := .int) (by decide +kernel) rfl rfl dX10_tick_184 (fun H locs hw => ?_)
    rw [← gs4] at hw
    refine lv_aload_n hx hb dX10_tick_187 rfl (lv_at hl 0 rfl) ?_
    refine lv_aload_n hx hb dX10_tick_188 rfl (lv_at hl 0 rfl) ?_
    refine r_gr S hE hw 4 75 iw10_X10_tick rfl rfl (by decide) rfl (hts _ mf23_X10_tick) dX10_tick_189 ?_
    refine lv_aload_n hx hb dX10_tick_192 rfl (lv_at hl 0 rfl) ?_
    refine r_gi S hE hw 31 iw10_X10_tick rfl rfl (by decide) (hts _ mf132_X10_tick) dX10_tick_193 ?_
    obtain ⟨v5, gv5, h⟩ := oB_out h
    refine r_al S hE hw rfl rfl gv5 dX10_tick_196 ?_
    obtain ⟨s6, gs6, h⟩ := bT_out h
    refine r_pi S hE hw 32 v5 iw10_X10_tick tyX10 tyX10_ok nmX10 rfl rfl (by decide) (hts _ mf129_X10_tick) rfl (ty := .int) (by decide +kernel) rfl rfl dX10_tick_197 (fun H locs hw => ?_)
    rw [← gs6] at hw
    exact w_X10_tick_200   S hr hlocks hE   s6 x1 x2 h hw (lv_sub hl [0, 1, 2] rfl)

def f_X10_tick_63 (σ : St) (x1 : Int32) (x2 : Int32) (x3 : Int32) : Option St := Option.bind (aL σ 74 8 (σ.1 72 31)) fun v1 => Option.bind (aL σ 76 24 x2) fun v2 => if ((σ.1 72 32) * (v1 + v2)) ≤ (10 * (x3 + (σ.1 72 33))) then (if (10 * (x3 + (σ.1 72 33))) ≤ ((σ.1 72 32) * (v1 + v2)) then (f_X10_tick_148 σ x1 x2) else (bT (up σ 72 31 ((σ.1 72 31) - 1)) fun s5 => f_X10_tick_148 s5 x1 x2)) else (if 7 ≤ (σ.1 72 31) then (bT (up σ 72 31 7) fun s7 => f_X10_tick_148 s7 x1 x2) else (bT (up σ 72 31 ((σ.1 72 31) + 1)) fun s8 => f_X10_tick_148 s8 x1 x2))
set_option maxRecDepth 100000 in
set_option maxHeartbeats 4000000 in
theorem w_X10_tick_63 {p : Program} {l : Launch} {e : Env} {s : State} {m : MethodId} {args : Array Value} {below : List Frame} {meth : Method} {c : Code} {G : Gp} {A : Nat → Prop} (S : CallFix p m c cX10_tick 9 s args wsX10_tick RX10) (hr : meth.sig.returnType = none) (hlocks : meth.locks = false) (hE : Ev G A s) (σ : St) (x1 : Int32) (x2 : Int32) (x3 : Int32) {σ' : St} (h : f_X10_tick_63   σ x1 x2 x3 = some σ') {H : Heap} {locs : List Loc} {ls : Array Slot} (hw : Ww G A σ s H locs) (hl : lv_has ls 9 [(0, .ref (ad G 72)), (1, .int x1), (2, .int x2), (3, .int x3)]) : W p l e (rmd 3) s m args below meth c H locs 0 0 (Qv below args s G A σ') (F0 m 63 ls []) := by
  obtain ⟨hx, hb, hml, hown, hts⟩ := id S
  unfold f_X10_tick_63 at h
  refine lv_aload_n hx hb dX10_tick_63 rfl (lv_at hl 0 rfl) ?_
  refine r_gi S hE hw 32 iw10_X10_tick rfl rfl (by decide) (hts _ mf129_X10_tick) dX10_tick_64 ?_
  refine lv_aload_n hx hb dX10_tick_67 rfl (lv_at hl 0 rfl) ?_
  refine r_gr S hE hw 3 74 iw10_X10_tick rfl rfl (by decide) rfl (hts _ mf20_X10_tick) dX10_tick_68 ?_
  refine lv_aload_n hx hb dX10_tick_71 rfl (lv_at hl 0 rfl) ?_
  refine r_gi S hE hw 31 iw10_X10_tick rfl rfl (by decide) (hts _ mf132_X10_tick) dX10_tick_72 ?_
  obtain ⟨v1, gv1, h⟩ := oB_out h
  refine r_al S hE hw rfl rfl gv1 dX10_tick_75 ?_
  refine lv_aload_n hx hb dX10_tick_76 rfl (lv_at hl 0 rfl) ?_
  refine r_gr S hE hw 5 76 iw10_X10_tick rfl rfl (by decide) rfl (hts _ mf26_X10_tick) dX10_tick_77 ?_
  refine lv_iload_n hx hb dX10_tick_80 rfl (lv_at hl 2 rfl) ?_
  obtain ⟨v2, gv2, h⟩ := oB_out h
  refine r_al S hE hw rfl rfl gv2 dX10_tick_81 ?_
  refine lv_iadd hx hb dX10_tick_82 ?_
  refine lv_imul hx hb dX10_tick_83 ?_
  refine lv_istore (lv' := [(6, .int ((σ.1 72 32) * (v1 + v2))), (0, .ref (ad G 72)), (1, .int x1), (2, .int x2), (3, .int x3)]) hx hb dX10_tick_84 hl (by decide) rfl (fun ls hl => ?_)
  refine lv_bipush (v := 10) hx hb dX10_tick_86 (by decide) ?_
  refine lv_iload_n hx hb dX10_tick_88 rfl (lv_at hl 4 rfl) ?_
  refine lv_aload_n hx hb dX10_tick_89 rfl (lv_at hl 1 rfl) ?_
  refine r_gi S hE hw 33 iw10_X10_tick rfl rfl (by decide) (hts _ mf126_X10_tick) dX10_tick_90 ?_
  refine lv_iadd hx hb dX10_tick_93 ?_
  refine lv_imul hx hb dX10_tick_94 ?_
  refine lv_istore (lv' := [(7, .int (10 * (x3 + (σ.1 72 33)))), (6, .int ((σ.1 72 32) * (v1 + v2))), (0, .ref (ad G 72)), (1, .int x1), (2, .int x2), (3, .int x3)]) hx hb dX10_tick_95 hl (by decide) rfl (fun ls hl => ?_)
  refine lv_iload hx hb dX10_tick_97 (lv_at hl 1 rfl) ?_
  refine lv_iload hx hb dX10_tick_99 (lv_at hl 0 rfl) ?_
  refine lv_icmp_le (tgt := 131) hx hb dX10_tick_101 (by decide) (fun c3 => ?_) (fun c3 => ?_)
  · have h := if_t c3 h
    refine lv_iload hx hb dX10_tick_131 (lv_at hl 1 rfl) ?_
    refine lv_iload hx hb dX10_tick_133 (lv_at hl 0 rfl) ?_
    refine lv_icmp_ge (tgt := 148) hx hb dX10_tick_135 (by decide) (fun c4 => ?_) (fun c4 => ?_)
    · have h := if_t c4 h
      exact w_X10_tick_148   S hr hlocks hE   σ x1 x2 h hw (lv_sub hl [2, 3, 4] rfl)
    · have h := if_f c4 h
      refine lv_aload_n hx hb dX10_tick_138 rfl (lv_at hl 2 rfl) ?_
      refine lv_dup hx hb dX10_tick_139 rfl ?_
      refine r_gi S hE hw 31 iw10_X10_tick rfl rfl (by decide) (hts _ mf132_X10_tick) dX10_tick_140 ?_
      refine lv_iconst (v := 1) hx hb dX10_tick_143 (by decide) ?_
      refine lv_isub hx hb dX10_tick_144 ?_
      obtain ⟨s5, gs5, h⟩ := bT_out h
      refine r_pi S hE hw 31 ((σ.1 72 31) - 1) iw10_X10_tick tyX10 tyX10_ok nmX10 rfl rfl (by decide) (hts _ mf132_X10_tick) rfl (ty := .int) (by decide +kernel) rfl rfl dX10_tick_145 (fun H locs hw => ?_)
      rw [← gs5] at hw
      exact w_X10_tick_148   S hr hlocks hE   s5 x1 x2 h hw (lv_sub hl [2, 3, 4] rfl)
  · have h := if_f c3 h
    refine lv_aload_n hx hb dX10_tick_104 rfl (lv_at hl 2 rfl) ?_
    refine lv_aload_n hx hb dX10_tick_105 rfl (lv_at hl 2 rfl) ?_
    refine r_gi S hE hw 31 iw10_X10_tick rfl rfl (by decide) (hts _ mf132_X10_tick) dX10_tick_106 ?_
    refine lv_bipush (v := 7) hx hb dX10_tick_109 (by decide) ?_
    refine lv_icmp_ge (tgt := 123) hx hb dX10_tick_111 (by decide) (fun c6 => ?_) (fun c6 => ?_)
    · have h := if_t c6 h
      refine lv_bipush (v := 7) hx hb dX10_tick_123 (by decide) ?_
      obtain ⟨s7, gs7, h⟩ := bT_out h
      refine r_pi S hE hw 31 7 iw10_X10_tick tyX10 tyX10_ok nmX10 rfl rfl (by decide) (hts _ mf132_X10_tick) rfl (ty := .int) (by decide +kernel) rfl rfl dX10_tick_125 (fun H locs hw => ?_)
      rw [← gs7] at hw
      refine lv_goto (tgt := 148) hx hb dX10_tick_128 (by decide) ?_
      exact w_X10_tick_148   S hr hlocks hE   s7 x1 x2 h hw (lv_sub hl [2, 3, 4] rfl)
    · have h := if_f c6 h
      refine lv_aload_n hx hb dX10_tick_114 rfl (lv_at hl 2 rfl) ?_
      refine r_gi S hE hw 31 iw10_X10_tick rfl rfl (by decide) (hts _ mf132_X10_tick) dX10_tick_115 ?_
      refine lv_iconst (v := 1) hx hb dX10_tick_118 (by decide) ?_
      refine lv_iadd hx hb dX10_tick_119 ?_
      refine lv_goto (tgt := 125) hx hb dX10_tick_120 (by decide) ?_
      obtain ⟨s8, gs8, h⟩ := bT_out h
      refine r_pi S hE hw 31 ((σ.1 72 31) + 1) iw10_X10_tick tyX10 tyX10_ok nmX10 rfl rfl (by decide) (hts _ mf132_X10_tick) rfl (ty := .int) (by decide +kernel) rfl rfl dX10_tick_125 (fun H locs hw => ?_)
      rw [← gs8] at hw
      refine lv_goto (tgt := 148) hx hb dX10_tick_128 (by decide) ?_
      exact w_X10_tick_148   S hr hlocks hE   s8 x1 x2 h hw (lv_sub hl [2, 3, 4] rfl)

def f_X10_tick (σ : St) (p1 : Int32) (p2 : Int32) (p3 : Int32) (p4 : Int32) (p5 : Int32) : Option St := if p4 = 1 then (if (σ.1 72 33) ≤ p5 then (bT (up σ 72 33 0) fun s7 => f_X10_tick_63 s7 p1 p2 p3) else (bT (up σ 72 33 ((σ.1 72 33) - p5)) fun s8 => f_X10_tick_63 s8 p1 p2 p3)) else (if p4 = 2 then (if (σ.1 72 32) ≤ p5 then (bT (up σ 72 32 0) fun s4 => f_X10_tick_63 s4 p1 p2 p3) else (bT (up σ 72 32 ((σ.1 72 32) - p5)) fun s5 => f_X10_tick_63 s5 p1 p2 p3)) else (f_X10_tick_63 σ p1 p2 p3))
set_option maxRecDepth 100000 in
set_option maxHeartbeats 4000000 in
theorem c_X10_tick (l : Launch) (G : Gp) (A : Nat → Prop) (σ : St) (p1 : Int32) (p2 : Int32) (p3 : Int32) (p4 : Int32) (p5 : Int32) {σ' : St} (h : f_X10_tick σ p1 p2 p3 p4 p5 = some σ') : Kv l yX10_tick wsX10_tick 3 G A [.ref (ad G 72), .int p1, .int p2, .int p3, .int p4, .int p5] σ σ' := by
  unfold f_X10_tick at h
  refine r_start (ws := wsX10_tick) (d := 3) (by decide) rfl [.ref (ad G 72), .int p1, .int p2, .int p3, .int p4, .int p5] (Nat.le_of_ble_eq_true rfl) ?_
  intro p e s m below meth c S hr hlocks hE hw ls hl
  have hl : lv_has ls 9 [(0, .ref (ad G 72)), (1, .int p1), (2, .int p2), (3, .int p3), (4, .int p4), (5, .int p5)] := hl
  obtain ⟨hx, hb, hml, hown, hts⟩ := id S
  refine lv_iload hx hb dX10_tick_0 (lv_at hl 4 rfl) ?_
  refine lv_iconst (v := 1) hx hb dX10_tick_2 (by decide) ?_
  refine lv_icmp_ne (tgt := 33) hx hb dX10_tick_3 (by decide) (fun c1 => ?_) (fun c1 => ?_)
  · have h := if_f c1 h
    refine lv_iload hx hb dX10_tick_33 (lv_at hl 4 rfl) ?_
    refine lv_iconst (v := 2) hx hb dX10_tick_35 (by decide) ?_
    refine lv_icmp_ne (tgt := 63) hx hb dX10_tick_36 (by decide) (fun c2 => ?_) (fun c2 => ?_)
    · have h := if_f c2 h
      exact w_X10_tick_63   S hr hlocks hE   σ p1 p2 p3 h hw (lv_sub hl [0, 1, 2, 3] rfl)
    · have h := if_t c2 h
      refine lv_aload_n hx hb dX10_tick_39 rfl (lv_at hl 0 rfl) ?_
      refine lv_aload_n hx hb dX10_tick_40 rfl (lv_at hl 0 rfl) ?_
      refine r_gi S hE hw 32 iw10_X10_tick rfl rfl (by decide) (hts _ mf129_X10_tick) dX10_tick_41 ?_
      refine lv_iload hx hb dX10_tick_44 (lv_at hl 5 rfl) ?_
      refine lv_icmp_le (tgt := 59) hx hb dX10_tick_46 (by decide) (fun c3 => ?_) (fun c3 => ?_)
      · have h := if_t c3 h
        refine lv_iconst (v := 0) hx hb dX10_tick_59 (by decide) ?_
        obtain ⟨s4, gs4, h⟩ := bT_out h
        refine r_pi S hE hw 32 0 iw10_X10_tick tyX10 tyX10_ok nmX10 rfl rfl (by decide) (hts _ mf129_X10_tick) rfl (ty := .int) (by decide +kernel) rfl rfl dX10_tick_60 (fun H locs hw => ?_)
        rw [← gs4] at hw
        exact w_X10_tick_63   S hr hlocks hE   s4 p1 p2 p3 h hw (lv_sub hl [0, 1, 2, 3] rfl)
      · have h := if_f c3 h
        refine lv_aload_n hx hb dX10_tick_49 rfl (lv_at hl 0 rfl) ?_
        refine r_gi S hE hw 32 iw10_X10_tick rfl rfl (by decide) (hts _ mf129_X10_tick) dX10_tick_50 ?_
        refine lv_iload hx hb dX10_tick_53 (lv_at hl 5 rfl) ?_
        refine lv_isub hx hb dX10_tick_55 ?_
        refine lv_goto (tgt := 60) hx hb dX10_tick_56 (by decide) ?_
        obtain ⟨s5, gs5, h⟩ := bT_out h
        refine r_pi S hE hw 32 ((σ.1 72 32) - p5) iw10_X10_tick tyX10 tyX10_ok nmX10 rfl rfl (by decide) (hts _ mf129_X10_tick) rfl (ty := .int) (by decide +kernel) rfl rfl dX10_tick_60 (fun H locs hw => ?_)
        rw [← gs5] at hw
        exact w_X10_tick_63   S hr hlocks hE   s5 p1 p2 p3 h hw (lv_sub hl [0, 1, 2, 3] rfl)
  · have h := if_t c1 h
    refine lv_aload_n hx hb dX10_tick_6 rfl (lv_at hl 0 rfl) ?_
    refine lv_aload_n hx hb dX10_tick_7 rfl (lv_at hl 0 rfl) ?_
    refine r_gi S hE hw 33 iw10_X10_tick rfl rfl (by decide) (hts _ mf126_X10_tick) dX10_tick_8 ?_
    refine lv_iload hx hb dX10_tick_11 (lv_at hl 5 rfl) ?_
    refine lv_icmp_le (tgt := 26) hx hb dX10_tick_13 (by decide) (fun c6 => ?_) (fun c6 => ?_)
    · have h := if_t c6 h
      refine lv_iconst (v := 0) hx hb dX10_tick_26 (by decide) ?_
      obtain ⟨s7, gs7, h⟩ := bT_out h
      refine r_pi S hE hw 33 0 iw10_X10_tick tyX10 tyX10_ok nmX10 rfl rfl (by decide) (hts _ mf126_X10_tick) rfl (ty := .int) (by decide +kernel) rfl rfl dX10_tick_27 (fun H locs hw => ?_)
      rw [← gs7] at hw
      refine lv_goto (tgt := 63) hx hb dX10_tick_30 (by decide) ?_
      exact w_X10_tick_63   S hr hlocks hE   s7 p1 p2 p3 h hw (lv_sub hl [0, 1, 2, 3] rfl)
    · have h := if_f c6 h
      refine lv_aload_n hx hb dX10_tick_16 rfl (lv_at hl 0 rfl) ?_
      refine r_gi S hE hw 33 iw10_X10_tick rfl rfl (by decide) (hts _ mf126_X10_tick) dX10_tick_17 ?_
      refine lv_iload hx hb dX10_tick_20 (lv_at hl 5 rfl) ?_
      refine lv_isub hx hb dX10_tick_22 ?_
      refine lv_goto (tgt := 27) hx hb dX10_tick_23 (by decide) ?_
      obtain ⟨s8, gs8, h⟩ := bT_out h
      refine r_pi S hE hw 33 ((σ.1 72 33) - p5) iw10_X10_tick tyX10 tyX10_ok nmX10 rfl rfl (by decide) (hts _ mf126_X10_tick) rfl (ty := .int) (by decide +kernel) rfl rfl dX10_tick_27 (fun H locs hw => ?_)
      rw [← gs8] at hw
      refine lv_goto (tgt := 63) hx hb dX10_tick_30 (by decide) ?_
      exact w_X10_tick_63   S hr hlocks hE   s8 p1 p2 p3 h hw (lv_sub hl [0, 1, 2, 3] rfl)


theorem mf35_X10_begin : Cond.fieldLink RX10 35 "GasVoyagesModel" "fx" "[I" ∈ wsX10_begin := by decide +kernel
set_option maxRecDepth 20000 in
theorem iw10_X10_begin : ∀ w ∈ u_ws RX10 TX10 43, w ∈ wsX10_begin := by decide +kernel
theorem mf138_X10_begin : Cond.fieldLink RX10 138 "GasVoyagesModel" "nowX" "I" ∈ wsX10_begin := by decide +kernel
theorem mf38_X10_begin : Cond.fieldLink RX10 38 "GasVoyagesModel" "fy" "[I" ∈ wsX10_begin := by decide +kernel
theorem mf141_X10_begin : Cond.fieldLink RX10 141 "GasVoyagesModel" "nowY" "I" ∈ wsX10_begin := by decide +kernel
theorem mf41_X10_begin : Cond.fieldLink RX10 41 "GasVoyagesModel" "fl" "[I" ∈ wsX10_begin := by decide +kernel
theorem mf132_X10_begin : Cond.fieldLink RX10 132 "GasVoyagesModel" "nowLevel" "I" ∈ wsX10_begin := by decide +kernel
theorem mf50_X10_begin : Cond.fieldLink RX10 50 "GasVoyagesModel" "gas" "[I" ∈ wsX10_begin := by decide +kernel
theorem mf129_X10_begin : Cond.fieldLink RX10 129 "GasVoyagesModel" "nowGas" "I" ∈ wsX10_begin := by decide +kernel
theorem mf53_X10_begin : Cond.fieldLink RX10 53 "GasVoyagesModel" "ballast" "[I" ∈ wsX10_begin := by decide +kernel
theorem mf126_X10_begin : Cond.fieldLink RX10 126 "GasVoyagesModel" "nowBallast" "I" ∈ wsX10_begin := by decide +kernel
theorem mf56_X10_begin : Cond.fieldLink RX10 56 "GasVoyagesModel" "gone" "[I" ∈ wsX10_begin := by decide +kernel
theorem mf135_X10_begin : Cond.fieldLink RX10 135 "GasVoyagesModel" "nowGone" "I" ∈ wsX10_begin := by decide +kernel
def f_X10_begin (σ : St) (p1 : Int32) : Option St := Option.bind (aL σ 79 8 p1) fun v1 => bT (up σ 72 29 v1) fun s2 => Option.bind (aL s2 80 8 p1) fun v3 => bT (up s2 72 30 v3) fun s4 => Option.bind (aL s4 81 8 p1) fun v5 => bT (up s4 72 31 v5) fun s6 => Option.bind (aL s6 84 8 p1) fun v7 => bT (up s6 72 32 v7) fun s8 => Option.bind (aL s8 85 8 p1) fun v9 => bT (up s8 72 33 v9) fun s10 => Option.bind (aL s10 86 8 p1) fun v11 => bT (up s10 72 34 v11) fun s12 => some s12
set_option maxRecDepth 100000 in
set_option maxHeartbeats 4000000 in
theorem c_X10_begin (l : Launch) (G : Gp) (A : Nat → Prop) (σ : St) (p1 : Int32) {σ' : St} (h : f_X10_begin σ p1 = some σ') : Kv l yX10_begin wsX10_begin 0 G A [.ref (ad G 72), .int p1] σ σ' := by
  unfold f_X10_begin at h
  refine r_start (ws := wsX10_begin) (d := 0) (by decide) rfl [.ref (ad G 72), .int p1] (Nat.le_of_ble_eq_true rfl) ?_
  intro p e s m below meth c S hr hlocks hE hw ls hl
  have hl : lv_has ls 2 [(0, .ref (ad G 72)), (1, .int p1)] := hl
  obtain ⟨hx, hb, hml, hown, hts⟩ := id S
  refine lv_aload_n hx hb dX10_begin_0 rfl (lv_at hl 0 rfl) ?_
  refine lv_aload_n hx hb dX10_begin_1 rfl (lv_at hl 0 rfl) ?_
  refine r_gr S hE hw 9 79 iw10_X10_begin rfl rfl (by decide) rfl (hts _ mf35_X10_begin) dX10_begin_2 ?_
  refine lv_iload_n hx hb dX10_begin_5 rfl (lv_at hl 1 rfl) ?_
  obtain ⟨v1, gv1, h⟩ := oB_out h
  refine r_al S hE hw rfl rfl gv1 dX10_begin_6 ?_
  obtain ⟨s2, gs2, h⟩ := bT_out h
  refine r_pi S hE hw 29 v1 iw10_X10_begin tyX10 tyX10_ok nmX10 rfl rfl (by decide) (hts _ mf138_X10_begin) rfl (ty := .int) (by decide +kernel) rfl rfl dX10_begin_7 (fun H locs hw => ?_)
  rw [← gs2] at hw
  refine lv_aload_n hx hb dX10_begin_10 rfl (lv_at hl 0 rfl) ?_
  refine lv_aload_n hx hb dX10_begin_11 rfl (lv_at hl 0 rfl) ?_
  refine r_gr S hE hw 10 80 iw10_X10_begin rfl rfl (by decide) rfl (hts _ mf38_X10_begin) dX10_begin_12 ?_
  refine lv_iload_n hx hb dX10_begin_15 rfl (lv_at hl 1 rfl) ?_
  obtain ⟨v3, gv3, h⟩ := oB_out h
  refine r_al S hE hw rfl rfl gv3 dX10_begin_16 ?_
  obtain ⟨s4, gs4, h⟩ := bT_out h
  refine r_pi S hE hw 30 v3 iw10_X10_begin tyX10 tyX10_ok nmX10 rfl rfl (by decide) (hts _ mf141_X10_begin) rfl (ty := .int) (by decide +kernel) rfl rfl dX10_begin_17 (fun H locs hw => ?_)
  rw [← gs4] at hw
  refine lv_aload_n hx hb dX10_begin_20 rfl (lv_at hl 0 rfl) ?_
  refine lv_aload_n hx hb dX10_begin_21 rfl (lv_at hl 0 rfl) ?_
  refine r_gr S hE hw 11 81 iw10_X10_begin rfl rfl (by decide) rfl (hts _ mf41_X10_begin) dX10_begin_22 ?_
  refine lv_iload_n hx hb dX10_begin_25 rfl (lv_at hl 1 rfl) ?_
  obtain ⟨v5, gv5, h⟩ := oB_out h
  refine r_al S hE hw rfl rfl gv5 dX10_begin_26 ?_
  obtain ⟨s6, gs6, h⟩ := bT_out h
  refine r_pi S hE hw 31 v5 iw10_X10_begin tyX10 tyX10_ok nmX10 rfl rfl (by decide) (hts _ mf132_X10_begin) rfl (ty := .int) (by decide +kernel) rfl rfl dX10_begin_27 (fun H locs hw => ?_)
  rw [← gs6] at hw
  refine lv_aload_n hx hb dX10_begin_30 rfl (lv_at hl 0 rfl) ?_
  refine lv_aload_n hx hb dX10_begin_31 rfl (lv_at hl 0 rfl) ?_
  refine r_gr S hE hw 14 84 iw10_X10_begin rfl rfl (by decide) rfl (hts _ mf50_X10_begin) dX10_begin_32 ?_
  refine lv_iload_n hx hb dX10_begin_35 rfl (lv_at hl 1 rfl) ?_
  obtain ⟨v7, gv7, h⟩ := oB_out h
  refine r_al S hE hw rfl rfl gv7 dX10_begin_36 ?_
  obtain ⟨s8, gs8, h⟩ := bT_out h
  refine r_pi S hE hw 32 v7 iw10_X10_begin tyX10 tyX10_ok nmX10 rfl rfl (by decide) (hts _ mf129_X10_begin) rfl (ty := .int) (by decide +kernel) rfl rfl dX10_begin_37 (fun H locs hw => ?_)
  rw [← gs8] at hw
  refine lv_aload_n hx hb dX10_begin_40 rfl (lv_at hl 0 rfl) ?_
  refine lv_aload_n hx hb dX10_begin_41 rfl (lv_at hl 0 rfl) ?_
  refine r_gr S hE hw 15 85 iw10_X10_begin rfl rfl (by decide) rfl (hts _ mf53_X10_begin) dX10_begin_42 ?_
  refine lv_iload_n hx hb dX10_begin_45 rfl (lv_at hl 1 rfl) ?_
  obtain ⟨v9, gv9, h⟩ := oB_out h
  refine r_al S hE hw rfl rfl gv9 dX10_begin_46 ?_
  obtain ⟨s10, gs10, h⟩ := bT_out h
  refine r_pi S hE hw 33 v9 iw10_X10_begin tyX10 tyX10_ok nmX10 rfl rfl (by decide) (hts _ mf126_X10_begin) rfl (ty := .int) (by decide +kernel) rfl rfl dX10_begin_47 (fun H locs hw => ?_)
  rw [← gs10] at hw
  refine lv_aload_n hx hb dX10_begin_50 rfl (lv_at hl 0 rfl) ?_
  refine lv_aload_n hx hb dX10_begin_51 rfl (lv_at hl 0 rfl) ?_
  refine r_gr S hE hw 16 86 iw10_X10_begin rfl rfl (by decide) rfl (hts _ mf56_X10_begin) dX10_begin_52 ?_
  refine lv_iload_n hx hb dX10_begin_55 rfl (lv_at hl 1 rfl) ?_
  obtain ⟨v11, gv11, h⟩ := oB_out h
  refine r_al S hE hw rfl rfl gv11 dX10_begin_56 ?_
  obtain ⟨s12, gs12, h⟩ := bT_out h
  refine r_pi S hE hw 34 v11 iw10_X10_begin tyX10 tyX10_ok nmX10 rfl rfl (by decide) (hts _ mf135_X10_begin) rfl (ty := .int) (by decide +kernel) rfl rfl dX10_begin_57 (fun H locs hw => ?_)
  rw [← gs12] at hw
  obtain rfl := Option.some.inj h
  exact r_vret S hr hlocks hw dX10_begin_60


theorem mf69_X10_writes : Cond.fieldLink RX10 69 "GasVoyagesModel" "logCell" "[I" ∈ wsX10_writes := by decide +kernel
set_option maxRecDepth 20000 in
theorem iw10_X10_writes : ∀ w ∈ u_ws RX10 TX10 43, w ∈ wsX10_writes := by decide +kernel
theorem mf66_X10_writes : Cond.fieldLink RX10 66 "GasVoyagesModel" "entries" "[I" ∈ wsX10_writes := by decide +kernel
theorem mf38_X10_writes : Cond.fieldLink RX10 38 "GasVoyagesModel" "fy" "[I" ∈ wsX10_writes := by decide +kernel
theorem mf35_X10_writes : Cond.fieldLink RX10 35 "GasVoyagesModel" "fx" "[I" ∈ wsX10_writes := by decide +kernel
theorem mf72_X10_writes : Cond.fieldLink RX10 72 "GasVoyagesModel" "logLevel" "[I" ∈ wsX10_writes := by decide +kernel
theorem mf41_X10_writes : Cond.fieldLink RX10 41 "GasVoyagesModel" "fl" "[I" ∈ wsX10_writes := by decide +kernel
theorem mf75_X10_writes : Cond.fieldLink RX10 75 "GasVoyagesModel" "lost" "[Z" ∈ wsX10_writes := by decide +kernel
def f_X10_writes (σ : St) (p1 : Int32) : Option St := Option.bind (aL σ 89 8 p1) fun v1 => Option.bind (aL σ 80 8 p1) fun v2 => Option.bind (aL σ 79 8 p1) fun v3 => Option.bind (aS σ 90 488 ((61 * p1) + v1) ((24 * v2) + v3)) fun s4 => Option.bind (aL s4 89 8 p1) fun v5 => Option.bind (aL s4 81 8 p1) fun v6 => Option.bind (aS s4 91 488 ((61 * p1) + v5) v6) fun s7 => Option.bind (aL s7 89 8 p1) fun v8 => Option.bind (aS s7 92 488 ((61 * p1) + v8) (vp_nar .boolean 0)) fun s9 => Option.bind (aL s9 89 8 p1) fun v10 => Option.bind (aS s9 89 8 p1 (v10 + 1)) fun s11 => some s11
set_option maxRecDepth 100000 in
set_option maxHeartbeats 4000000 in
theorem c_X10_writes (l : Launch) (G : Gp) (A : Nat → Prop) (σ : St) (p1 : Int32) {σ' : St} (h : f_X10_writes σ p1 = some σ') : Kv l yX10_writes wsX10_writes 0 G A [.ref (ad G 72), .int p1] σ σ' := by
  unfold f_X10_writes at h
  refine r_start (ws := wsX10_writes) (d := 0) (by decide) rfl [.ref (ad G 72), .int p1] (Nat.le_of_ble_eq_true rfl) ?_
  intro p e s m below meth c S hr hlocks hE hw ls hl
  have hl : lv_has ls 2 [(0, .ref (ad G 72)), (1, .int p1)] := hl
  obtain ⟨hx, hb, hml, hown, hts⟩ := id S
  refine lv_aload_n hx hb dX10_writes_0 rfl (lv_at hl 0 rfl) ?_
  refine r_gr S hE hw 20 90 iw10_X10_writes rfl rfl (by decide) rfl (hts _ mf69_X10_writes) dX10_writes_1 ?_
  refine lv_bipush (v := 61) hx hb dX10_writes_4 (by decide) ?_
  refine lv_iload_n hx hb dX10_writes_6 rfl (lv_at hl 1 rfl) ?_
  refine lv_imul hx hb dX10_writes_7 ?_
  refine lv_aload_n hx hb dX10_writes_8 rfl (lv_at hl 0 rfl) ?_
  refine r_gr S hE hw 19 89 iw10_X10_writes rfl rfl (by decide) rfl (hts _ mf66_X10_writes) dX10_writes_9 ?_
  refine lv_iload_n hx hb dX10_writes_12 rfl (lv_at hl 1 rfl) ?_
  obtain ⟨v1, gv1, h⟩ := oB_out h
  refine r_al S hE hw rfl rfl gv1 dX10_writes_13 ?_
  refine lv_iadd hx hb dX10_writes_14 ?_
  refine lv_bipush (v := 24) hx hb dX10_writes_15 (by decide) ?_
  refine lv_aload_n hx hb dX10_writes_17 rfl (lv_at hl 0 rfl) ?_
  refine r_gr S hE hw 10 80 iw10_X10_writes rfl rfl (by decide) rfl (hts _ mf38_X10_writes) dX10_writes_18 ?_
  refine lv_iload_n hx hb dX10_writes_21 rfl (lv_at hl 1 rfl) ?_
  obtain ⟨v2, gv2, h⟩ := oB_out h
  refine r_al S hE hw rfl rfl gv2 dX10_writes_22 ?_
  refine lv_imul hx hb dX10_writes_23 ?_
  refine lv_aload_n hx hb dX10_writes_24 rfl (lv_at hl 0 rfl) ?_
  refine r_gr S hE hw 9 79 iw10_X10_writes rfl rfl (by decide) rfl (hts _ mf35_X10_writes) dX10_writes_25 ?_
  refine lv_iload_n hx hb dX10_writes_28 rfl (lv_at hl 1 rfl) ?_
  obtain ⟨v3, gv3, h⟩ := oB_out h
  refine r_al S hE hw rfl rfl gv3 dX10_writes_29 ?_
  refine lv_iadd hx hb dX10_writes_30 ?_
  obtain ⟨s4, gs4, h⟩ := oB_out h
  refine r_as S hE hw rfl rfl gs4 dX10_writes_31 (fun H locs hw => ?_)
  refine lv_aload_n hx hb dX10_writes_32 rfl (lv_at hl 0 rfl) ?_
  refine r_gr S hE hw 21 91 iw10_X10_writes rfl rfl (by decide) rfl (hts _ mf72_X10_writes) dX10_writes_33 ?_
  refine lv_bipush (v := 61) hx hb dX10_writes_36 (by decide) ?_
  refine lv_iload_n hx hb dX10_writes_38 rfl (lv_at hl 1 rfl) ?_
  refine lv_imul hx hb dX10_writes_39 ?_
  refine lv_aload_n hx hb dX10_writes_40 rfl (lv_at hl 0 rfl) ?_
  refine r_gr S hE hw 19 89 iw10_X10_writes rfl rfl (by decide) rfl (hts _ mf66_X10_writes) dX10_writes_41 ?_
  refine lv_iload_n hx hb dX10_writes_44 rfl (lv_at hl 1 rfl) ?_
  obtain ⟨v5, gv5, h⟩ := oB_out h
  refine r_al S hE hw rfl rfl gv5 dX10_writes_45 ?_
  refine lv_iadd hx hb dX10_writes_46 ?_
  refine lv_aload_n hx hb dX10_writes_47 rfl (lv_at hl 0 rfl) ?_
  refine r_gr S hE hw 11 81 iw10_X10_writes rfl rfl (by decide) rfl (hts _ mf41_X10_writes) dX10_writes_48 ?_
  refine lv_iload_n hx hb dX10_writes_51 rfl (lv_at hl 1 rfl) ?_
  obtain ⟨v6, gv6, h⟩ := oB_out h
  refine r_al S hE hw rfl rfl gv6 dX10_writes_52 ?_
  obtain ⟨s7, gs7, h⟩ := oB_out h
  refine r_as S hE hw rfl rfl gs7 dX10_writes_53 (fun H locs hw => ?_)
  refine lv_aload_n hx hb dX10_writes_54 rfl (lv_at hl 0 rfl) ?_
  refine r_gr S hE hw 22 92 iw10_X10_writes rfl rfl (by decide) rfl (hts _ mf75_X10_writes) dX10_writes_55 ?_
  refine lv_bipush (v := 61) hx hb dX10_writes_58 (by decide) ?_
  refine lv_iload_n hx hb dX10_writes_60 rfl (lv_at hl 1 rfl) ?_
  refine lv_imul hx hb dX10_writes_61 ?_
  refine lv_aload_n hx hb dX10_writes_62 rfl (lv_at hl 0 rfl) ?_
  refine r_gr S hE hw 19 89 iw10_X10_writes rfl rfl (by decide) rfl (hts _ mf66_X10_writes) dX10_writes_63 ?_
  refine lv_iload_n hx hb dX10_writes_66 rfl (lv_at hl 1 rfl) ?_
  obtain ⟨v8, gv8, h⟩ := oB_out h
  refine r_al S hE hw rfl rfl gv8 dX10_writes_67 ?_
  refine lv_iadd hx hb dX10_writes_68 ?_
  refine lv_iconst (v := 0) hx hb dX10_writes_69 (by decide) ?_
  obtain ⟨s9, gs9, h⟩ := oB_out h
  refine r_zs S hE hw rfl rfl gs9 dX10_writes_70 (fun H locs hw => ?_)
  refine lv_aload_n hx hb dX10_writes_71 rfl (lv_at hl 0 rfl) ?_
  refine r_gr S hE hw 19 89 iw10_X10_writes rfl rfl (by decide) rfl (hts _ mf66_X10_writes) dX10_writes_72 ?_
  refine lv_iload_n hx hb dX10_writes_75 rfl (lv_at hl 1 rfl) ?_
  refine lv_dup2_11 hx hb dX10_writes_76 rfl rfl ?_
  obtain ⟨v10, gv10, h⟩ := oB_out h
  refine r_al S hE hw rfl rfl gv10 dX10_writes_77 ?_
  refine lv_iconst (v := 1) hx hb dX10_writes_78 (by decide) ?_
  refine lv_iadd hx hb dX10_writes_79 ?_
  obtain ⟨s11, gs11, h⟩ := oB_out h
  refine r_as S hE hw rfl rfl gs11 dX10_writes_80 (fun H locs hw => ?_)
  obtain rfl := Option.some.inj h
  exact r_vret S hr hlocks hw dX10_writes_81

