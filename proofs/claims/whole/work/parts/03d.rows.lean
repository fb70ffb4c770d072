theorem mf19_X9_wind : Cond.fieldLink RX9 19 "GasVoyages" "air" "LGasVoyages$Air;" ∈ wsX9_wind := by decide +kernel
set_option maxRecDepth 20000 in
theorem iw9_X9_wind : ∀ w ∈ u_ws RX9 TX9 8, w ∈ wsX9_wind := by decide +kernel
theorem mf105_X9_wind : Cond.fieldLink RX9 105 "GasVoyages$Air" "forecast" "LGasVoyages$Winds;" ∈ wsX9_wind := by decide +kernel
set_option maxRecDepth 20000 in
theorem iw0_X9_wind : ∀ w ∈ u_ws RX0 TX0 5, w ∈ wsX9_wind := by decide +kernel
theorem mf48_X9_wind : Cond.fieldLink RX9 48 "GasVoyages$Air" "real" "LGasVoyages$Winds;" ∈ wsX9_wind := by decide +kernel
def f_X9_wind_85 : Nat → St → Int32 → Int32 → Int32 → Int32 → Nat → Int32 → Option (Int32 × St)
  | 0, _, _, _, _, _, _, _ => none
  | n + 1, σ, x2, x4, x5, x6, q7, x8 => if x4 < x8 then (some (1, σ)) else (Option.bind (f_X8_put σ q7 x2 x8 x5 x6) fun s2 => f_X9_wind_85 n s2 x2 x4 x5 x6 q7 (x8 + 1))
set_option maxRecDepth 100000 in
set_option maxHeartbeats 4000000 in
theorem w_X9_wind_85 {p : Program} {l : Launch} {e : Env} {s : State} {m : MethodId} {args : Array Value} {below : List Frame} {meth : Method} {c : Code} {G : Gp} {A : Nat → Prop} (S : CallFix p m c cX9_wind 9 s args wsX9_wind RX9) (hr : meth.sig.returnType = (some .int)) (hlocks : meth.locks = false) (hE : Ev G A s) (n : Nat) (σ : St) (x2 : Int32) (x4 : Int32) (x5 : Int32) (x6 : Int32) (q7 : Nat) (x8 : Int32) (hq7 : kd q7 = 8) {r : Int32} {σ' : St} (h : f_X9_wind_85   n σ x2 x4 x5 x6 q7 x8 = some (r, σ')) {H : Heap} {locs : List Loc} {ls : Array Slot} (hw : Ww G A σ s H locs) (hl : lv_has ls 9 [(2, .int x2), (4, .int x4), (5, .int x5), (6, .int x6), (7, .ref (ad G q7)), (8, .int x8)]) : W p l e (rmd 1) s m args below meth c H locs 0 0 (Qi below args s G A r σ') (F0 m 85 ls []) := by
  obtain ⟨hx, hb, hml, hown, hts⟩ := id S
  induction n generalizing σ x2 x4 x5 x6 q7 x8 r σ' H locs ls with
  | zero => cases h
  | succ n ih =>
    unfold f_X9_wind_85 at h
    refine lv_iload hx hb dX9_wind_85 (lv_at hl 5 rfl) ?_
    refine lv_iload hx hb dX9_wind_87 (lv_at hl 1 rfl) ?_
    refine lv_icmp_gt (tgt := 110) hx hb dX9_wind_89 (by decide) (fun c1 => ?_) (fun c1 => ?_)
    · have h := if_t c1 h
      refine lv_iconst (v := 1) hx hb dX9_wind_110 (by decide) ?_
      obtain ⟨rfl, rfl⟩ := rt2 h
      exact r_iret S hr hlocks hw dX9_wind_111
    · have h := if_f c1 h
      refine lv_aload hx hb dX9_wind_92 (lv_at hl 4 rfl) ?_
      refine lv_iload_n hx hb dX9_wind_94 rfl (lv_at hl 0 rfl) ?_
      refine lv_iload hx hb dX9_wind_95 (lv_at hl 5 rfl) ?_
      refine lv_iload hx hb dX9_wind_97 (lv_at hl 2 rfl) ?_
      refine lv_iload hx hb dX9_wind_99 (lv_at hl 3 rfl) ?_
      obtain ⟨s2, gs2, h⟩ := oB_out h
      refine r_cv (r_runV (k := q7) (ci := 8) (As := [.int x2, .int x8, .int x5, .int x6]) (rest := []) S hE hw (c_X8_put  l G A σ q7 x2 x8 x5 x6 hq7 gs2) (cwV 4 hts gX9_wind_X8_put rfl rfl rfl (by decide +kernel) ⟨Nat.le_of_ble_eq_true rfl, Nat.le_of_ble_eq_true rfl⟩) hq7 rfl (by decide) rfl hl.1 rfl (Nat.le_of_ble_eq_true rfl) ⟨Nat.zero_le _, Nat.zero_le _⟩ dX9_wind_101) hw (fun H locs hw => ?_)
      refine lv_iinc (v := x8 + 1) (lv' := [(8, .int (x8 + 1)), (2, .int x2), (4, .int x4), (5, .int x5), (6, .int x6), (7, .ref (ad G q7))]) hx hb dX9_wind_104 hl (k := 5) rfl rfl (by decide) rfl (fun ls hl => ?_)
      refine lv_goto (tgt := 85) hx hb dX9_wind_107 (by decide) ?_
      exact ih s2 x2 x4 x5 x6 q7 (x8 + 1) hq7 h hw (lv_sub hl [1, 2, 3, 4, 5, 0] rfl)

def f_X9_wind (σ : St) (p1 : Int32) (p2 : Int32) (p3 : Int32) (p4 : Int32) (p5 : Int32) (p6 : Int32) : Option (Int32 × St) := if (f_X9_within p2 1 7) = 0 then (some ((-2), σ)) else (if (f_X9_within p3 0 23) = 0 then (some ((-2), σ)) else (if (f_X9_within p4 p3 23) = 0 then (some ((-2), σ)) else (if (f_X9_within p5 (-2) 2) = 0 then (some ((-2), σ)) else (if (f_X9_within p6 (-2) 2) = 0 then (some ((-2), σ)) else (if p1 = 0 then (f_X9_wind_85 10000 σ p2 p4 p5 p6 10 p3) else (f_X9_wind_85 10000 σ p2 p4 p5 p6 7 p3))))))
set_option maxRecDepth 100000 in
set_option maxHeartbeats 4000000 in
theorem c_X9_wind (l : Launch) (G : Gp) (A : Nat → Prop) (σ : St) (p1 : Int32) (p2 : Int32) (p3 : Int32) (p4 : Int32) (p5 : Int32) (p6 : Int32) {r : Int32} {σ' : St} (h : f_X9_wind σ p1 p2 p3 p4 p5 p6 = some (r, σ')) : Ki l yX9_wind wsX9_wind 1 G A [.ref (ad G 0), .int p1, .int p2, .int p3, .int p4, .int p5, .int p6] σ r σ' := by
  unfold f_X9_wind at h
  refine r_start (ws := wsX9_wind) (d := 1) (by decide) rfl [.ref (ad G 0), .int p1, .int p2, .int p3, .int p4, .int p5, .int p6] (Nat.le_of_ble_eq_true rfl) ?_
  intro p e s m below meth c S hr hlocks hE hw ls hl
  have hl : lv_has ls 9 [(0, .ref (ad G 0)), (1, .int p1), (2, .int p2), (3, .int p3), (4, .int p4), (5, .int p5), (6, .int p6)] := hl
  obtain ⟨hx, hb, hml, hown, hts⟩ := id S
  refine lv_iload_n hx hb dX9_wind_0 rfl (lv_at hl 2 rfl) ?_
  refine lv_iconst (v := 1) hx hb dX9_wind_1 (by decide) ?_
  refine lv_bipush (v := 7) hx hb dX9_wind_2 (by decide) ?_
  refine r_cz (r_runS (As := [.int p2, .int 1, .int 7]) (rest := []) S hE hw (c_X9_within  l G A σ p2 1 7) (va_cwS 3 hts gX9_wind_X9_within rfl rfl rfl (by decide +kernel) ⟨Nat.le_of_ble_eq_true rfl, Nat.le_of_ble_eq_true rfl⟩) rfl hl.1 rfl (Nat.le_of_ble_eq_true rfl) ⟨Nat.zero_le _, Nat.zero_le _⟩ dX9_wind_4) hw (fun H locs hw hb1 => ?_)
  refine lv_if_eq (tgt := 31) hx hb dX9_wind_7 (by decide) (fun c2 => ?_) (fun c2 => ?_)
  · have h := if_t c2 h
    refine lv_bipush (v := (-2)) hx hb dX9_wind_31 (by decide) ?_
    obtain ⟨rfl, rfl⟩ := rt2 h
    exact r_iret S hr hlocks hw dX9_wind_33
  · have h := if_f c2 h
    refine lv_iload_n hx hb dX9_wind_10 rfl (lv_at hl 3 rfl) ?_
    refine lv_iconst (v := 0) hx hb dX9_wind_11 (by decide) ?_
    refine lv_bipush (v := 23) hx hb dX9_wind_12 (by decide) ?_
    refine r_cz (r_runS (As := [.int p3, .int 0, .int 23]) (rest := []) S hE hw (c_X9_within  l G A σ p3 0 23) (va_cwS 3 hts gX9_wind_X9_within rfl rfl rfl (by decide +kernel) ⟨Nat.le_of_ble_eq_true rfl, Nat.le_of_ble_eq_true rfl⟩) rfl hl.1 rfl (Nat.le_of_ble_eq_true rfl) ⟨Nat.zero_le _, Nat.zero_le _⟩ dX9_wind_14) hw (fun H locs hw hb3 => ?_)
    refine lv_if_eq (tgt := 31) hx hb dX9_wind_17 (by decide) (fun c4 => ?_) (fun c4 => ?_)
    · have h := if_t c4 h
      refine lv_bipush (v := (-2)) hx hb dX9_wind_31 (by decide) ?_
      obtain ⟨rfl, rfl⟩ := rt2 h
      exact r_iret S hr hlocks hw dX9_wind_33
    · have h := if_f c4 h
      refine lv_iload hx hb dX9_wind_20 (lv_at hl 4 rfl) ?_
      refine lv_iload_n hx hb dX9_wind_22 rfl (lv_at hl 3 rfl) ?_
      refine lv_bipush (v := 23) hx hb dX9_wind_23 (by decide) ?_
      refine r_cz (r_runS (As := [.int p4, .int p3, .int 23]) (rest := []) S hE hw (c_X9_within  l G A σ p4 p3 23) (va_cwS 3 hts gX9_wind_X9_within rfl rfl rfl (by decide +kernel) ⟨Nat.le_of_ble_eq_true rfl, Nat.le_of_ble_eq_true rfl⟩) rfl hl.1 rfl (Nat.le_of_ble_eq_true rfl) ⟨Nat.zero_le _, Nat.zero_le _⟩ dX9_wind_25) hw (fun H locs hw hb5 => ?_)
      refine lv_if_ne (tgt := 34) hx hb dX9_wind_28 (by decide) (fun c6 => ?_) (fun c6 => ?_)
      · have h := if_f c6 h
        refine lv_iload hx hb dX9_wind_34 (lv_at hl 5 rfl) ?_
        refine lv_bipush (v := (-2)) hx hb dX9_wind_36 (by decide) ?_
        refine lv_iconst (v := 2) hx hb dX9_wind_38 (by decide) ?_
        refine r_cz (r_runS (As := [.int p5, .int (-2), .int 2]) (rest := []) S hE hw (c_X9_within  l G A σ p5 (-2) 2) (va_cwS 3 hts gX9_wind_X9_within rfl rfl rfl (by decide +kernel) ⟨Nat.le_of_ble_eq_true rfl, Nat.le_of_ble_eq_true rfl⟩) rfl hl.1 rfl (Nat.le_of_ble_eq_true rfl) ⟨Nat.zero_le _, Nat.zero_le _⟩ dX9_wind_39) hw (fun H locs hw hb7 => ?_)
        refine lv_if_eq (tgt := 56) hx hb dX9_wind_42 (by decide) (fun c8 => ?_) (fun c8 => ?_)
        · have h := if_t c8 h
          refine lv_bipush (v := (-2)) hx hb dX9_wind_56 (by decide) ?_
          obtain ⟨rfl, rfl⟩ := rt2 h
          exact r_iret S hr hlocks hw dX9_wind_58
        · have h := if_f c8 h
          refine lv_iload hx hb dX9_wind_45 (lv_at hl 6 rfl) ?_
          refine lv_bipush (v := (-2)) hx hb dX9_wind_47 (by decide) ?_
          refine lv_iconst (v := 2) hx hb dX9_wind_49 (by decide) ?_
          refine r_cz (r_runS (As := [.int p6, .int (-2), .int 2]) (rest := []) S hE hw (c_X9_within  l G A σ p6 (-2) 2) (va_cwS 3 hts gX9_wind_X9_within rfl rfl rfl (by decide +kernel) ⟨Nat.le_of_ble_eq_true rfl, Nat.le_of_ble_eq_true rfl⟩) rfl hl.1 rfl (Nat.le_of_ble_eq_true rfl) ⟨Nat.zero_le _, Nat.zero_le _⟩ dX9_wind_50) hw (fun H locs hw hb9 => ?_)
          refine lv_if_ne (tgt := 59) hx hb dX9_wind_53 (by decide) (fun c10 => ?_) (fun c10 => ?_)
          · have h := if_f c10 h
            refine lv_iload_n hx hb dX9_wind_59 rfl (lv_at hl 1 rfl) ?_
            refine lv_if_eq (tgt := 73) hx hb dX9_wind_60 (by decide) (fun c11 => ?_) (fun c11 => ?_)
            · have h := if_t c11 h
              refine lv_aload_n hx hb dX9_wind_73 rfl (lv_at hl 0 rfl) ?_
              refine r_gr S hE hw 1 3 iw9_X9_wind rfl rfl (by decide) rfl (hts _ mf19_X9_wind) dX9_wind_74 ?_
              refine r_gr S hE hw 4 10 iw0_X9_wind rfl rfl (by decide) rfl (hts _ mf105_X9_wind) dX9_wind_77 ?_
              refine lv_astore (lv' := [(7, .ref (ad G 10)), (0, .ref (ad G 0)), (1, .int p1), (2, .int p2), (3, .int p3), (4, .int p4), (5, .int p5), (6, .int p6)]) hx hb dX9_wind_80 hl (by decide) rfl (fun ls hl => ?_)
              refine lv_iload_n hx hb dX9_wind_82 rfl (lv_at hl 4 rfl) ?_
              refine lv_istore (lv' := [(8, .int p3), (7, .ref (ad G 10)), (0, .ref (ad G 0)), (1, .int p1), (2, .int p2), (3, .int p3), (4, .int p4), (5, .int p5), (6, .int p6)]) hx hb dX9_wind_83 hl (by decide) rfl (fun ls hl => ?_)
              exact w_X9_wind_85   S hr hlocks hE  10000 σ p2 p4 p5 p6 10 p3 rfl h hw (lv_sub hl [4, 6, 7, 8, 1, 0] rfl)
            · have h := if_f c11 h
              refine lv_aload_n hx hb dX9_wind_63 rfl (lv_at hl 0 rfl) ?_
              refine r_gr S hE hw 1 3 iw9_X9_wind rfl rfl (by decide) rfl (hts _ mf19_X9_wind) dX9_wind_64 ?_
              refine r_gr S hE hw 3 7 iw0_X9_wind rfl rfl (by decide) rfl (hts _ mf48_X9_wind) dX9_wind_67 ?_
              refine lv_goto (tgt := 80) hx hb dX9_wind_70 (by decide) ?_
              refine lv_astore (lv' := [(7, .ref (ad G 7)), (0, .ref (ad G 0)), (1, .int p1), (2, .int p2), (3, .int p3), (4, .int p4), (5, .int p5), (6, .int p6)]) hx hb dX9_wind_80 hl (by decide) rfl (fun ls hl => ?_)
              refine lv_iload_n hx hb dX9_wind_82 rfl (lv_at hl 4 rfl) ?_
              refine lv_istore (lv' := [(8, .int p3), (7, .ref (ad G 7)), (0, .ref (ad G 0)), (1, .int p1), (2, .int p2), (3, .int p3), (4, .int p4), (5, .int p5), (6, .int p6)]) hx hb dX9_wind_83 hl (by decide) rfl (fun ls hl => ?_)
              exact w_X9_wind_85   S hr hlocks hE  10000 σ p2 p4 p5 p6 7 p3 rfl h hw (lv_sub hl [4, 6, 7, 8, 1, 0] rfl)
          · have h := if_t c10 h
            refine lv_bipush (v := (-2)) hx hb dX9_wind_56 (by decide) ?_
            obtain ⟨rfl, rfl⟩ := rt2 h
            exact r_iret S hr hlocks hw dX9_wind_58
      · have h := if_t c6 h
        refine lv_bipush (v := (-2)) hx hb dX9_wind_31 (by decide) ?_
        obtain ⟨rfl, rfl⟩ := rt2 h
        exact r_iret S hr hlocks hw dX9_wind_33


theorem mf12_X9_fly : Cond.fieldLink RX9 12 "GasVoyages" "ground" "LGasVoyages$Land;" ∈ wsX9_fly := by decide +kernel
set_option maxRecDepth 20000 in
theorem iw9_X9_fly : ∀ w ∈ u_ws RX9 TX9 8, w ∈ wsX9_fly := by decide +kernel
theorem mf92_X9_fly : Cond.fieldLink RX9 92 "GasVoyages$Land" "kinds" "[I" ∈ wsX9_fly := by decide +kernel
set_option maxRecDepth 20000 in
theorem iw5_X9_fly : ∀ w ∈ u_ws RX5 TX5 3, w ∈ wsX9_fly := by decide +kernel
theorem mf33_X9_fly : Cond.fieldLink RX9 33 "GasVoyages" "flightCount" "I" ∈ wsX9_fly := by decide +kernel
theorem mf25_X9_fly : Cond.fieldLink RX9 25 "GasVoyages" "flights" "[LGasVoyages$Flight;" ∈ wsX9_fly := by decide +kernel
def f_X9_fly (σ : St) (p1 : Int32) (p2 : Int32) (p3 : Int32) (p4 : Int32) (p5 : Int32) (p6 : Int32) : Option (Int32 × St) := if (f_X5_has σ p1 p2) = 0 then (some ((-2), σ)) else (if (f_X9_within p3 0 23) = 0 then (some ((-2), σ)) else (if (f_X9_within p4 1 200) = 0 then (some ((-2), σ)) else (if (f_X9_within p5 0 500) = 0 then (some ((-2), σ)) else (if (f_X9_within p6 0 200) = 0 then (some ((-2), σ)) else (Option.bind (aL σ 2 576 (f_X9_cellOf p1 p2)) fun v11 => if v11 = 2 then (some ((-3), σ)) else (if (σ.1 0 4) < 8 then (Option.bind (inB 8 (σ.1 0 4)) fun j14 => Option.bind (f_X3_begin σ (40 + 4 * j14) (f_X9_cellOf p1 p2) p3 p4 p5 p6) fun s16 => bT (up s16 0 4 ((s16.1 0 4) + 1)) fun s17 => some ((s17.1 0 4) - 1, s17)) else (some ((-4), σ))))))))
set_option maxRecDepth 100000 in
set_option maxHeartbeats 4000000 in
theorem c_X9_fly (l : Launch) (G : Gp) (A : Nat → Prop) (σ : St) (p1 : Int32) (p2 : Int32) (p3 : Int32) (p4 : Int32) (p5 : Int32) (p6 : Int32) {r : Int32} {σ' : St} (h : f_X9_fly σ p1 p2 p3 p4 p5 p6 = some (r, σ')) : Ki l yX9_fly wsX9_fly 3 G A [.ref (ad G 0), .int p1, .int p2, .int p3, .int p4, .int p5, .int p6] σ r σ' := by
  unfold f_X9_fly at h
  refine r_start (ws := wsX9_fly) (d := 3) (by decide) rfl [.ref (ad G 0), .int p1, .int p2, .int p3, .int p4, .int p5, .int p6] (Nat.le_of_ble_eq_true rfl) ?_
  intro p e s m below meth c S hr hlocks hE hw ls hl
  have hl : lv_has ls 8 [(0, .ref (ad G 0)), (1, .int p1), (2, .int p2), (3, .int p3), (4, .int p4), (5, .int p5), (6, .int p6)] := hl
  obtain ⟨hx, hb, hml, hown, hts⟩ := id S
  refine lv_aload_n hx hb dX9_fly_0 rfl (lv_at hl 0 rfl) ?_
  refine r_gr S hE hw 0 1 iw9_X9_fly rfl rfl (by decide) rfl (hts _ mf12_X9_fly) dX9_fly_1 ?_
  refine lv_iload_n hx hb dX9_fly_4 rfl (lv_at hl 1 rfl) ?_
  refine lv_iload_n hx hb dX9_fly_5 rfl (lv_at hl 2 rfl) ?_
  refine r_cz (r_runV (k := 1) (ci := 5) (As := [.int p1, .int p2]) (rest := []) S hE hw (c_X5_has  l G A σ p1 p2) (cwV 2 hts gX9_fly_X5_has rfl rfl rfl (by decide +kernel) ⟨Nat.le_of_ble_eq_true rfl, Nat.le_of_ble_eq_true rfl⟩) rfl rfl (by decide) rfl hl.1 rfl (Nat.le_of_ble_eq_true rfl) ⟨Nat.zero_le _, Nat.zero_le _⟩ dX9_fly_6) hw (fun H locs hw hb1 => ?_)
  refine lv_if_eq (tgt := 34) hx hb dX9_fly_9 (by decide) (fun c2 => ?_) (fun c2 => ?_)
  · have h := if_t c2 h
    refine lv_bipush (v := (-2)) hx hb dX9_fly_34 (by decide) ?_
    obtain ⟨rfl, rfl⟩ := rt2 h
    exact r_iret S hr hlocks hw dX9_fly_36
  · have h := if_f c2 h
    refine lv_iload_n hx hb dX9_fly_12 rfl (lv_at hl 3 rfl) ?_
    refine lv_iconst (v := 0) hx hb dX9_fly_13 (by decide) ?_
    refine lv_bipush (v := 23) hx hb dX9_fly_14 (by decide) ?_
    refine r_cz (r_runS (As := [.int p3, .int 0, .int 23]) (rest := []) S hE hw (c_X9_within  l G A σ p3 0 23) (va_cwS 3 hts gX9_fly_X9_within rfl rfl rfl (by decide +kernel) ⟨Nat.le_of_ble_eq_true rfl, Nat.le_of_ble_eq_true rfl⟩) rfl hl.1 rfl (Nat.le_of_ble_eq_true rfl) ⟨Nat.zero_le _, Nat.zero_le _⟩ dX9_fly_16) hw (fun H locs hw hb3 => ?_)
    refine lv_if_eq (tgt := 34) hx hb dX9_fly_19 (by decide) (fun c4 => ?_) (fun c4 => ?_)
    · have h := if_t c4 h
      refine lv_bipush (v := (-2)) hx hb dX9_fly_34 (by decide) ?_
      obtain ⟨rfl, rfl⟩ := rt2 h
      exact r_iret S hr hlocks hw dX9_fly_36
    · have h := if_f c4 h
      refine lv_iload hx hb dX9_fly_22 (lv_at hl 4 rfl) ?_
      refine lv_iconst (v := 1) hx hb dX9_fly_24 (by decide) ?_
      refine lv_sipush (v := 200) hx hb dX9_fly_25 (by decide) ?_
      refine r_cz (r_runS (As := [.int p4, .int 1, .int 200]) (rest := []) S hE hw (c_X9_within  l G A σ p4 1 200) (va_cwS 3 hts gX9_fly_X9_within rfl rfl rfl (by decide +kernel) ⟨Nat.le_of_ble_eq_true rfl, Nat.le_of_ble_eq_true rfl⟩) rfl hl.1 rfl (Nat.le_of_ble_eq_true rfl) ⟨Nat.zero_le _, Nat.zero_le _⟩ dX9_fly_28) hw (fun H locs hw hb5 => ?_)
      refine lv_if_ne (tgt := 37) hx hb dX9_fly_31 (by decide) (fun c6 => ?_) (fun c6 => ?_)
      · have h := if_f c6 h
        refine lv_iload hx hb dX9_fly_37 (lv_at hl 5 rfl) ?_
        refine lv_iconst (v := 0) hx hb dX9_fly_39 (by decide) ?_
        refine lv_sipush (v := 500) hx hb dX9_fly_40 (by decide) ?_
        refine r_cz (r_runS (As := [.int p5, .int 0, .int 500]) (rest := []) S hE hw (c_X9_within  l G A σ p5 0 500) (va_cwS 3 hts gX9_fly_X9_within rfl rfl rfl (by decide +kernel) ⟨Nat.le_of_ble_eq_true rfl, Nat.le_of_ble_eq_true rfl⟩) rfl hl.1 rfl (Nat.le_of_ble_eq_true rfl) ⟨Nat.zero_le _, Nat.zero_le _⟩ dX9_fly_43) hw (fun H locs hw hb7 => ?_)
        refine lv_if_eq (tgt := 61) hx hb dX9_fly_46 (by decide) (fun c8 => ?_) (fun c8 => ?_)
        · have h := if_t c8 h
          refine lv_bipush (v := (-2)) hx hb dX9_fly_61 (by decide) ?_
          obtain ⟨rfl, rfl⟩ := rt2 h
          exact r_iret S hr hlocks hw dX9_fly_63
        · have h := if_f c8 h
          refine lv_iload hx hb dX9_fly_49 (lv_at hl 6 rfl) ?_
          refine lv_iconst (v := 0) hx hb dX9_fly_51 (by decide) ?_
          refine lv_sipush (v := 200) hx hb dX9_fly_52 (by decide) ?_
          refine r_cz (r_runS (As := [.int p6, .int 0, .int 200]) (rest := []) S hE hw (c_X9_within  l G A σ p6 0 200) (va_cwS 3 hts gX9_fly_X9_within rfl rfl rfl (by decide +kernel) ⟨Nat.le_of_ble_eq_true rfl, Nat.le_of_ble_eq_true rfl⟩) rfl hl.1 rfl (Nat.le_of_ble_eq_true rfl) ⟨Nat.zero_le _, Nat.zero_le _⟩ dX9_fly_55) hw (fun H locs hw hb9 => ?_)
          refine lv_if_ne (tgt := 64) hx hb dX9_fly_58 (by decide) (fun c10 => ?_) (fun c10 => ?_)
          · have h := if_f c10 h
            refine lv_iload_n hx hb dX9_fly_64 rfl (lv_at hl 1 rfl) ?_
            refine lv_iload_n hx hb dX9_fly_65 rfl (lv_at hl 2 rfl) ?_
            refine r_ci (r_runS (As := [.int p1, .int p2]) (rest := []) S hE hw (c_X9_cellOf  l G A σ p1 p2) (va_cwS 2 hts gX9_fly_X9_cellOf rfl rfl rfl (by decide +kernel) ⟨Nat.le_of_ble_eq_true rfl, Nat.le_of_ble_eq_true rfl⟩) rfl hl.1 rfl (Nat.le_of_ble_eq_true rfl) ⟨Nat.zero_le _, Nat.zero_le _⟩ dX9_fly_66) hw (fun H locs hw => ?_)
            refine lv_istore (lv' := [(7, .int (f_X9_cellOf p1 p2)), (0, .ref (ad G 0)), (1, .int p1), (2, .int p2), (3, .int p3), (4, .int p4), (5, .int p5), (6, .int p6)]) hx hb dX9_fly_69 hl (by decide) rfl (fun ls hl => ?_)
            refine lv_aload_n hx hb dX9_fly_71 rfl (lv_at hl 1 rfl) ?_
            refine r_gr S hE hw 0 1 iw9_X9_fly rfl rfl (by decide) rfl (hts _ mf12_X9_fly) dX9_fly_72 ?_
            refine r_gr S hE hw 2 2 iw5_X9_fly rfl rfl (by decide) rfl (hts _ mf92_X9_fly) dX9_fly_75 ?_
            refine lv_iload hx hb dX9_fly_78 (lv_at hl 0 rfl) ?_
            obtain ⟨v11, gv11, h⟩ := oB_out h
            refine r_al S hE hw rfl rfl gv11 dX9_fly_80 ?_
            refine lv_iconst (v := 2) hx hb dX9_fly_81 (by decide) ?_
            refine lv_icmp_ne (tgt := 88) hx hb dX9_fly_82 (by decide) (fun c12 => ?_) (fun c12 => ?_)
            · have h := if_f c12 h
              refine lv_aload_n hx hb dX9_fly_88 rfl (lv_at hl 1 rfl) ?_
              refine r_gi S hE hw 4 iw9_X9_fly rfl rfl (by decide) (hts _ mf33_X9_fly) dX9_fly_89 ?_
              refine lv_bipush (v := 8) hx hb dX9_fly_92 (by decide) ?_
              refine lv_icmp_lt (tgt := 100) hx hb dX9_fly_94 (by decide) (fun c13 => ?_) (fun c13 => ?_)
              · have h := if_t c13 h
                refine lv_aload_n hx hb dX9_fly_100 rfl (lv_at hl 1 rfl) ?_
                refine r_gr S hE hw 2 13 iw9_X9_fly rfl rfl (by decide) rfl (hts _ mf25_X9_fly) dX9_fly_101 ?_
                refine lv_aload_n hx hb dX9_fly_104 rfl (lv_at hl 1 rfl) ?_
                refine r_gi S hE hw 4 iw9_X9_fly rfl rfl (by decide) (hts _ mf33_X9_fly) dX9_fly_105 ?_
                obtain ⟨j14, gj14, h⟩ := oB_out h
                refine r_rf S hE hw ⟨rfl, rfl⟩ gj14 dX9_fly_108 ?_
                have hf15 := kd_fl (inB_in gj14).2.2
                refine lv_iload hx hb dX9_fly_109 (lv_at hl 0 rfl) ?_
                refine lv_iload_n hx hb dX9_fly_111 rfl (lv_at hl 4 rfl) ?_
                refine lv_iload hx hb dX9_fly_112 (lv_at hl 5 rfl) ?_
                refine lv_iload hx hb dX9_fly_114 (lv_at hl 6 rfl) ?_
                refine lv_iload hx hb dX9_fly_116 (lv_at hl 7 rfl) ?_
                obtain ⟨s16, gs16, h⟩ := oB_out h
                refine r_cv (r_runV (k := 40 + 4 * j14) (ci := 3) (As := [.int (f_X9_cellOf p1 p2), .int p3, .int p4, .int p5, .int p6]) (rest := []) S hE hw (c_X3_begin  l G A σ (40 + 4 * j14) (f_X9_cellOf p1 p2) p3 p4 p5 p6 hf15 gs16) (cwV 5 hts gX9_fly_X3_begin rfl rfl rfl (by decide +kernel) ⟨Nat.le_of_ble_eq_true rfl, Nat.le_of_ble_eq_true rfl⟩) hf15 rfl (by decide) rfl hl.1 rfl (Nat.le_of_ble_eq_true rfl) ⟨Nat.zero_le _, Nat.zero_le _⟩ dX9_fly_118) hw (fun H locs hw => ?_)
                refine lv_aload_n hx hb dX9_fly_121 rfl (lv_at hl 1 rfl) ?_
                refine lv_dup hx hb dX9_fly_122 rfl ?_
                refine r_gi S hE hw 4 iw9_X9_fly rfl rfl (by decide) (hts _ mf33_X9_fly) dX9_fly_123 ?_
                refine lv_iconst (v := 1) hx hb dX9_fly_126 (by decide) ?_
                refine lv_iadd hx hb dX9_fly_127 ?_
                obtain ⟨s17, gs17, h⟩ := bT_out h
                refine r_pi S hE hw 4 ((s16.1 0 4) + 1) iw9_X9_fly tyX9 tyX9_ok nmX9 rfl rfl (by decide) (hts _ mf33_X9_fly) rfl (ty := .int) (by decide +kernel) rfl rfl dX9_fly_128 (fun H locs hw => ?_)
                rw [← gs17] at hw
                refine lv_aload_n hx hb dX9_fly_131 rfl (lv_at hl 1 rfl) ?_
                refine r_gi S hE hw 4 iw9_X9_fly rfl rfl (by decide) (hts _ mf33_X9_fly) dX9_fly_132 ?_
                refine lv_iconst (v := 1) hx hb dX9_fly_135 (by decide) ?_
                refine lv_isub hx hb dX9_fly_136 ?_
                obtain ⟨rfl, rfl⟩ := rt2 h
                exact r_iret S hr hlocks hw dX9_fly_137
              · have h := if_f c13 h
                refine lv_bipush (v := (-4)) hx hb dX9_fly_97 (by decide) ?_
                obtain ⟨rfl, rfl⟩ := rt2 h
                exact r_iret S hr hlocks hw dX9_fly_99
            · have h := if_t c12 h
              refine lv_bipush (v := (-3)) hx hb dX9_fly_85 (by decide) ?_
              obtain ⟨rfl, rfl⟩ := rt2 h
              exact r_iret S hr hlocks hw dX9_fly_87
          · have h := if_t c10 h
            refine lv_bipush (v := (-2)) hx hb dX9_fly_61 (by decide) ?_
            obtain ⟨rfl, rfl⟩ := rt2 h
            exact r_iret S hr hlocks hw dX9_fly_63
      · have h := if_t c6 h
        refine lv_bipush (v := (-2)) hx hb dX9_fly_34 (by decide) ?_
        obtain ⟨rfl, rfl⟩ := rt2 h
        exact r_iret S hr hlocks hw dX9_fly_36


theorem mf33_X9_isFlight : Cond.fieldLink RX9 33 "GasVoyages" "flightCount" "I" ∈ wsX9_isFlight := by decide +kernel
set_option maxRecDepth 20000 in
theorem iw9_X9_isFlight : ∀ w ∈ u_ws RX9 TX9 8, w ∈ wsX9_isFlight := by decide +kernel
def f_X9_isFlight (σ : St) (p1 : Int32) : Int32 := f_X9_within p1 0 ((σ.1 0 4) - 1)
set_option maxRecDepth 100000 in
set_option maxHeartbeats 4000000 in
theorem c_X9_isFlight (l : Launch) (G : Gp) (A : Nat → Prop) (σ : St) (p1 : Int32) : Kz l yX9_isFlight wsX9_isFlight 1 G A [.ref (ad G 0), .int p1] σ (f_X9_isFlight σ p1) σ := by
  obtain ⟨r, h⟩ : ∃ r, f_X9_isFlight σ p1 = r := ⟨_, rfl⟩
  rw [h]
  unfold f_X9_isFlight at h
  refine r_start (ws := wsX9_isFlight) (d := 1) (by decide) rfl [.ref (ad G 0), .int p1] (Nat.le_of_ble_eq_true rfl) ?_
  intro p e s m below meth c S hr hlocks hE hw ls hl
  have hl : lv_has ls 2 [(0, .ref (ad G 0)), (1, .int p1)] := hl
  obtain ⟨hx, hb, hml, hown, hts⟩ := id S
  refine lv_iload_n hx hb dX9_isFlight_0 rfl (lv_at hl 1 rfl) ?_
  refine lv_iconst (v := 0) hx hb dX9_isFlight_1 (by decide) ?_
  refine lv_aload_n hx hb dX9_isFlight_2 rfl (lv_at hl 0 rfl) ?_
  refine r_gi S hE hw 4 iw9_X9_isFlight rfl rfl (by decide) (hts _ mf33_X9_isFlight) dX9_isFlight_3 ?_
  refine lv_iconst (v := 1) hx hb dX9_isFlight_6 (by decide) ?_
  refine lv_isub hx hb dX9_isFlight_7 ?_
  refine r_cz (r_runS (As := [.int p1, .int 0, .int ((σ.1 0 4) - 1)]) (rest := []) S hE hw (c_X9_within  l G A σ p1 0 ((σ.1 0 4) - 1)) (va_cwS 3 hts gX9_isFlight_X9_within rfl rfl rfl (by decide +kernel) ⟨Nat.le_of_ble_eq_true rfl, Nat.le_of_ble_eq_true rfl⟩) rfl hl.1 rfl (Nat.le_of_ble_eq_true rfl) ⟨Nat.zero_le _, Nat.zero_le _⟩ dX9_isFlight_8) hw (fun H locs hw hb1 => ?_)
  subst h
  exact r_zret S hr hlocks hw hb1 dX9_isFlight_11


theorem mf25_X9_go : Cond.fieldLink RX9 25 "GasVoyages" "flights" "[LGasVoyages$Flight;" ∈ wsX9_go := by decide +kernel
set_option maxRecDepth 20000 in
theorem iw9_X9_go : ∀ w ∈ u_ws RX9 TX9 8, w ∈ wsX9_go := by decide +kernel
theorem mf121_X9_go : Cond.fieldLink RX9 121 "GasVoyages$Flight" "balloon" "LGasVoyages$Balloon;" ∈ wsX9_go := by decide +kernel
set_option maxRecDepth 20000 in
theorem iw3_X9_go : ∀ w ∈ u_ws RX3 TX3 7, w ∈ wsX9_go := by decide +kernel
theorem mf125_X9_go : Cond.fieldLink RX9 125 "GasVoyages$Balloon" "landed" "Z" ∈ wsX9_go := by decide +kernel
set_option maxRecDepth 20000 in
theorem iw1_X9_go : ∀ w ∈ u_ws RX1 TX1 8, w ∈ wsX9_go := by decide +kernel
theorem mf131_X9_go : Cond.fieldLink RX9 131 "GasVoyages$Flight" "entries" "I" ∈ wsX9_go := by decide +kernel
theorem mf19_X9_go : Cond.fieldLink RX9 19 "GasVoyages" "air" "LGasVoyages$Air;" ∈ wsX9_go := by decide +kernel
theorem mf48_X9_go : Cond.fieldLink RX9 48 "GasVoyages$Air" "real" "LGasVoyages$Winds;" ∈ wsX9_go := by decide +kernel
set_option maxRecDepth 20000 in
theorem iw0_X9_go : ∀ w ∈ u_ws RX0 TX0 5, w ∈ wsX9_go := by decide +kernel
theorem mf12_X9_go : Cond.fieldLink RX9 12 "GasVoyages" "ground" "LGasVoyages$Land;" ∈ wsX9_go := by decide +kernel
def f_X9_go_85 : Nat → St → Int32 → Int32 → Int32 → Nat → Int32 → Option (Int32 × St)
  | 0, _, _, _, _, _, _ => none
  | n + 1, σ, x2, x3, x4, q5, x6 => if x4 ≤ x6 then (some (x6, σ)) else (if (σ.1 (q5 + 1) 7) = 0 then (Option.bind (f_X1_pass σ (q5 + 1) x2 x3 7) fun s3 => Option.bind (f_X3_writeDown s3 q5) fun s4 => f_X9_go_85 n s4 x2 x3 x4 q5 (x6 + 1)) else (some (x6, σ)))
set_option maxRecDepth 100000 in
set_option maxHeartbeats 4000000 in
theorem w_X9_go_85 {p : Program} {l : Launch} {e : Env} {s : State} {m : MethodId} {args : Array Value} {below : List Frame} {meth : Method} {c : Code} {G : Gp} {A : Nat → Prop} (S : CallFix p m c cX9_go 7 s args wsX9_go RX9) (hr : meth.sig.returnType = (some .int)) (hlocks : meth.locks = false) (hE : Ev G A s) (n : Nat) (σ : St) (x2 : Int32) (x3 : Int32) (x4 : Int32) (q5 : Nat) (x6 : Int32) (hq5 : kd q5 = 3) {r : Int32} {σ' : St} (h : f_X9_go_85   n σ x2 x3 x4 q5 x6 = some (r, σ')) {H : Heap} {locs : List Loc} {ls : Array Slot} (hw : Ww G A σ s H locs) (hl : lv_has ls 7 [(0, .ref (ad G 0)), (2, .int x2), (3, .int x3), (4, .int x4), (5, .ref (ad G q5)), (6, .int x6)]) : W p l e (rmd 5) s m args below meth c H locs 0 0 (Qi below args s G A r σ') (F0 m 85 ls []) := by
  obtain ⟨hx, hb, hml, hown, hts⟩ := id S
  induction n generalizing σ x2 x3 x4 q5 x6 r σ' H locs ls with
  | zero => cases h
  | succ n ih =>
    unfold f_X9_go_85 at h
    refine lv_iload hx hb dX9_go_85 (lv_at hl 5 rfl) ?_
    refine lv_iload hx hb dX9_go_87 (lv_at hl 3 rfl) ?_
    refine lv_icmp_ge (tgt := 139) hx hb dX9_go_89 (by decide) (fun c1 => ?_) (fun c1 => ?_)
    · have h := if_t c1 h
      refine lv_iload hx hb dX9_go_139 (lv_at hl 5 rfl) ?_
      obtain ⟨rfl, rfl⟩ := rt2 h
      exact r_iret S hr hlocks hw dX9_go_141
    · have h := if_f c1 h
      refine lv_aload hx hb dX9_go_92 (lv_at hl 4 rfl) ?_
      refine r_gr S hE hw 0 (q5 + 1) iw3_X9_go hq5 rfl (by decide) rfl (hts _ mf121_X9_go) dX9_go_94 ?_
      refine r_gi S hE hw 7 iw1_X9_go (kf_b hq5) rfl (by decide) (hts _ mf125_X9_go) dX9_go_97 ?_
      refine lv_if_ne (tgt := 139) hx hb dX9_go_100 (by decide) (fun c2 => ?_) (fun c2 => ?_)
      · have h := if_f c2 h
        refine lv_iload hx hb dX9_go_139 (lv_at hl 5 rfl) ?_
        obtain ⟨rfl, rfl⟩ := rt2 h
        exact r_iret S hr hlocks hw dX9_go_141
      · have h := if_t c2 h
        refine lv_aload hx hb dX9_go_103 (lv_at hl 4 rfl) ?_
        refine r_gr S hE hw 0 (q5 + 1) iw3_X9_go hq5 rfl (by decide) rfl (hts _ mf121_X9_go) dX9_go_105 ?_
        refine lv_iload_n hx hb dX9_go_108 rfl (lv_at hl 1 rfl) ?_
        refine lv_iload_n hx hb dX9_go_109 rfl (lv_at hl 2 rfl) ?_
        refine lv_aload_n hx hb dX9_go_110 rfl (lv_at hl 0 rfl) ?_
        refine r_gr S hE hw 1 3 iw9_X9_go rfl rfl (by decide) rfl (hts _ mf19_X9_go) dX9_go_111 ?_
        refine lv_aload_n hx hb dX9_go_114 rfl (lv_at hl 0 rfl) ?_
        refine r_gr S hE hw 1 3 iw9_X9_go rfl rfl (by decide) rfl (hts _ mf19_X9_go) dX9_go_115 ?_
        refine r_gr S hE hw 3 7 iw0_X9_go rfl rfl (by decide) rfl (hts _ mf48_X9_go) dX9_go_118 ?_
        refine lv_aload_n hx hb dX9_go_121 rfl (lv_at hl 0 rfl) ?_
        refine r_gr S hE hw 0 1 iw9_X9_go rfl rfl (by decide) rfl (hts _ mf12_X9_go) dX9_go_122 ?_
        obtain ⟨s3, gs3, h⟩ := oB_out h
        refine r_cv (r_runV (k := q5 + 1) (ci := 1) (As := [.int x2, .int x3, .ref (ad G 3), .ref (ad G 7), .ref (ad G 1)]) (rest := []) S hE hw (c_X1_pass  l G A σ (q5 + 1) x2 x3 7 (kf_b hq5) rfl gs3) (cwV 5 hts gX9_go_X1_pass rfl rfl rfl (by decide +kernel) ⟨Nat.le_of_ble_eq_true rfl, Nat.le_of_ble_eq_true rfl⟩) (kf_b hq5) rfl (by decide) rfl hl.1 rfl (Nat.le_of_ble_eq_true rfl) ⟨Nat.zero_le _, Nat.zero_le _⟩ dX9_go_125) hw (fun H locs hw => ?_)
        refine lv_aload hx hb dX9_go_128 (lv_at hl 4 rfl) ?_
        obtain ⟨s4, gs4, h⟩ := oB_out h
        refine r_cv (r_runV (k := q5) (ci := 3) (As := []) (rest := []) S hE hw (c_X3_writeDown  l G A s3 q5 hq5 gs4) (cwV 0 hts gX9_go_X3_writeDown rfl rfl rfl (by decide +kernel) ⟨Nat.le_of_ble_eq_true rfl, Nat.le_of_ble_eq_true rfl⟩) hq5 rfl (by decide) rfl hl.1 rfl (Nat.le_of_ble_eq_true rfl) ⟨Nat.zero_le _, Nat.zero_le _⟩ dX9_go_130) hw (fun H locs hw => ?_)
        refine lv_iinc (v := x6 + 1) (lv' := [(6, .int (x6 + 1)), (0, .ref (ad G 0)), (2, .int x2), (3, .int x3), (4, .int x4), (5, .ref (ad G q5))]) hx hb dX9_go_133 hl (k := 5) rfl rfl (by decide) rfl (fun ls hl => ?_)
        refine lv_goto (tgt := 85) hx hb dX9_go_136 (by decide) ?_
        exact ih s4 x2 x3 x4 q5 (x6 + 1) hq5 h hw (lv_sub hl [1, 2, 3, 4, 5, 0] rfl)

def f_X9_go (σ : St) (p1 : Int32) (p2 : Int32) (p3 : Int32) (p4 : Int32) : Option (Int32 × St) := if (f_X9_isFlight σ p1) = 0 then (some ((-2), σ)) else (if (f_X9_within p2 0 2) = 0 then (some ((-2), σ)) else (if (f_X9_within p3 1 50) = 0 then (some ((-2), σ)) else (if (f_X9_within p4 1 12) = 0 then (some ((-2), σ)) else (Option.bind (inB 8 p1) fun j9 => if (σ.1 ((40 + 4 * j9) + 1) 7) = 0 then (if ((σ.1 (40 + 4 * j9) 3) + p4) ≤ 60 then (f_X9_go_85 10000 σ p2 p3 p4 (40 + 4 * j9) 0) else (some ((-4), σ))) else (some ((-3), σ))))))
set_option maxRecDepth 100000 in
set_option maxHeartbeats 4000000 in
theorem c_X9_go (l : Launch) (G : Gp) (A : Nat → Prop) (σ : St) (p1 : Int32) (p2 : Int32) (p3 : Int32) (p4 : Int32) {r : Int32} {σ' : St} (h : f_X9_go σ p1 p2 p3 p4 = some (r, σ')) : Ki l yX9_go wsX9_go 5 G A [.ref (ad G 0), .int p1, .int p2, .int p3, .int p4] σ r σ' := by
  unfold f_X9_go at h
  refine r_start (ws := wsX9_go) (d := 5) (by decide) rfl [.ref (ad G 0), .int p1, .int p2, .int p3, .int p4] (Nat.le_of_ble_eq_true rfl) ?_
  intro p e s m below meth c S hr hlocks hE hw ls hl
  have hl : lv_has ls 7 [(0, .ref (ad G 0)), (1, .int p1), (2, .int p2), (3, .int p3), (4, .int p4)] := hl
  obtain ⟨hx, hb, hml, hown, hts⟩ := id S
  refine lv_aload_n hx hb dX9_go_0 rfl (lv_at hl 0 rfl) ?_
  refine lv_iload_n hx hb dX9_go_1 rfl (lv_at hl 1 rfl) ?_
  refine r_cz (r_runV (k := 0) (ci := 9) (As := [.int p1]) (rest := []) S hE hw (c_X9_isFlight  l G A σ p1) (cwV 1 hts gX9_go_X9_isFlight rfl rfl rfl (by decide +kernel) ⟨Nat.le_of_ble_eq_true rfl, Nat.le_of_ble_eq_true rfl⟩) rfl rfl (by decide) rfl hl.1 rfl (Nat.le_of_ble_eq_true rfl) ⟨Nat.zero_le _, Nat.zero_le _⟩ dX9_go_2) hw (fun H locs hw hb1 => ?_)
  refine lv_if_eq (tgt := 17) hx hb dX9_go_5 (by decide) (fun c2 => ?_) (fun c2 => ?_)
  · have h := if_t c2 h
    refine lv_bipush (v := (-2)) hx hb dX9_go_17 (by decide) ?_
    obtain ⟨rfl, rfl⟩ := rt2 h
    exact r_iret S hr hlocks hw dX9_go_19
  · have h := if_f c2 h
    refine lv_iload_n hx hb dX9_go_8 rfl (lv_at hl 2 rfl) ?_
    refine lv_iconst (v := 0) hx hb dX9_go_9 (by decide) ?_
    refine lv_iconst (v := 2) hx hb dX9_go_10 (by decide) ?_
    refine r_cz (r_runS (As := [.int p2, .int 0, .int 2]) (rest := []) S hE hw (c_X9_within  l G A σ p2 0 2) (va_cwS 3 hts gX9_go_X9_within rfl rfl rfl (by decide +kernel) ⟨Nat.le_of_ble_eq_true rfl, Nat.le_of_ble_eq_true rfl⟩) rfl hl.1 rfl (Nat.le_of_ble_eq_true rfl) ⟨Nat.zero_le _, Nat.zero_le _⟩ dX9_go_11) hw (fun H locs hw hb3 => ?_)
    refine lv_if_ne (tgt := 20) hx hb dX9_go_14 (by decide) (fun c4 => ?_) (fun c4 => ?_)
    · have h := if_f c4 h
      refine lv_iload_n hx hb dX9_go_20 rfl (lv_at hl 3 rfl) ?_
      refine lv_iconst (v := 1) hx hb dX9_go_21 (by decide) ?_
      refine lv_bipush (v := 50) hx hb dX9_go_22 (by decide) ?_
      refine r_cz (r_runS (As := [.int p3, .int 1, .int 50]) (rest := []) S hE hw (c_X9_within  l G A σ p3 1 50) (va_cwS 3 hts gX9_go_X9_within rfl rfl rfl (by decide +kernel) ⟨Nat.le_of_ble_eq_true rfl, Nat.le_of_ble_eq_true rfl⟩) rfl hl.1 rfl (Nat.le_of_ble_eq_true rfl) ⟨Nat.zero_le _, Nat.zero_le _⟩ dX9_go_24) hw (fun H locs hw hb5 => ?_)
      refine lv_if_eq (tgt := 41) hx hb dX9_go_27 (by decide) (fun c6 => ?_) (fun c6 => ?_)
      · have h := if_t c6 h
        refine lv_bipush (v := (-2)) hx hb dX9_go_41 (by decide) ?_
        obtain ⟨rfl, rfl⟩ := rt2 h
        exact r_iret S hr hlocks hw dX9_go_43
      · have h := if_f c6 h
        refine lv_iload hx hb dX9_go_30 (lv_at hl 4 rfl) ?_
        refine lv_iconst (v := 1) hx hb dX9_go_32 (by decide) ?_
        refine lv_bipush (v := 12) hx hb dX9_go_33 (by decide) ?_
        refine r_cz (r_runS (As := [.int p4, .int 1, .int 12]) (rest := []) S hE hw (c_X9_within  l G A σ p4 1 12) (va_cwS 3 hts gX9_go_X9_within rfl rfl rfl (by decide +kernel) ⟨Nat.le_of_ble_eq_true rfl, Nat.le_of_ble_eq_true rfl⟩) rfl hl.1 rfl (Nat.le_of_ble_eq_true rfl) ⟨Nat.zero_le _, Nat.zero_le _⟩ dX9_go_35) hw (fun H locs hw hb7 => ?_)
        refine lv_if_ne (tgt := 44) hx hb dX9_go_38 (by decide) (fun c8 => ?_) (fun c8 => ?_)
        · have h := if_f c8 h
          refine lv_aload_n hx hb dX9_go_44 rfl (lv_at hl 0 rfl) ?_
          refine r_gr S hE hw 2 13 iw9_X9_go rfl rfl (by decide) rfl (hts _ mf25_X9_go) dX9_go_45 ?_
          refine lv_iload_n hx hb dX9_go_48 rfl (lv_at hl 1 rfl) ?_
          obtain ⟨j9, gj9, h⟩ := oB_out h
          refine r_rf S hE hw ⟨rfl, rfl⟩ gj9 dX9_go_49 ?_
          have hf10 := kd_fl (inB_in gj9).2.2
          refine lv_astore (lv' := [(5, .ref (ad G (40 + 4 * j9))), (0, .ref (ad G 0)), (1, .int p1), (2, .int p2), (3, .int p3), (4, .int p4)]) hx hb dX9_go_50 hl (by decide) rfl (fun ls hl => ?_)
          refine lv_aload hx hb dX9_go_52 (lv_at hl 0 rfl) ?_
          refine r_gr S hE hw 0 ((40 + 4 * j9) + 1) iw3_X9_go hf10 rfl (by decide) rfl (hts _ mf121_X9_go) dX9_go_54 ?_
          refine r_gi S hE hw 7 iw1_X9_go (kf_b hf10) rfl (by decide) (hts _ mf125_X9_go) dX9_go_57 ?_
          refine lv_if_eq (tgt := 66) hx hb dX9_go_60 (by decide) (fun c11 => ?_) (fun c11 => ?_)
          · have h := if_t c11 h
            refine lv_aload hx hb dX9_go_66 (lv_at hl 0 rfl) ?_
            refine r_gi S hE hw 3 iw3_X9_go hf10 rfl (by decide) (hts _ mf131_X9_go) dX9_go_68 ?_
            refine lv_iload hx hb dX9_go_71 (lv_at hl 5 rfl) ?_
            refine lv_iadd hx hb dX9_go_73 ?_
            refine lv_bipush (v := 60) hx hb dX9_go_74 (by decide) ?_
            refine lv_icmp_le (tgt := 82) hx hb dX9_go_76 (by decide) (fun c12 => ?_) (fun c12 => ?_)
            · have h := if_t c12 h
              refine lv_iconst (v := 0) hx hb dX9_go_82 (by decide) ?_
              refine lv_istore (lv' := [(6, .int 0), (5, .ref (ad G (40 + 4 * j9))), (0, .ref (ad G 0)), (1, .int p1), (2, .int p2), (3, .int p3), (4, .int p4)]) hx hb dX9_go_83 hl (by decide) rfl (fun ls hl => ?_)
              exact w_X9_go_85   S hr hlocks hE  10000 σ p2 p3 p4 (40 + 4 * j9) 0 hf10 h hw (lv_sub hl [2, 4, 5, 6, 1, 0] rfl)
            · have h := if_f c12 h
              refine lv_bipush (v := (-4)) hx hb dX9_go_79 (by decide) ?_
              obtain ⟨rfl, rfl⟩ := rt2 h
              exact r_iret S hr hlocks hw dX9_go_81
          · have h := if_f c11 h
            refine lv_bipush (v := (-3)) hx hb dX9_go_63 (by decide) ?_
            obtain ⟨rfl, rfl⟩ := rt2 h
            exact r_iret S hr hlocks hw dX9_go_65
        · have h := if_t c8 h
          refine lv_bipush (v := (-2)) hx hb dX9_go_41 (by decide) ?_
          obtain ⟨rfl, rfl⟩ := rt2 h
          exact r_iret S hr hlocks hw dX9_go_43
    · have h := if_t c4 h
      refine lv_bipush (v := (-2)) hx hb dX9_go_17 (by decide) ?_
      obtain ⟨rfl, rfl⟩ := rt2 h
      exact r_iret S hr hlocks hw dX9_go_19


theorem mf25_X9_about : Cond.fieldLink RX9 25 "GasVoyages" "flights" "[LGasVoyages$Flight;" ∈ wsX9_about := by decide +kernel
set_option maxRecDepth 20000 in
theorem iw9_X9_about : ∀ w ∈ u_ws RX9 TX9 8, w ∈ wsX9_about := by decide +kernel
theorem mf121_X9_about : Cond.fieldLink RX9 121 "GasVoyages$Flight" "balloon" "LGasVoyages$Balloon;" ∈ wsX9_about := by decide +kernel
set_option maxRecDepth 20000 in
theorem iw3_X9_about : ∀ w ∈ u_ws RX3 TX3 7, w ∈ wsX9_about := by decide +kernel
theorem mf142_X9_about : Cond.fieldLink RX9 142 "GasVoyages$Balloon" "cell" "I" ∈ wsX9_about := by decide +kernel
set_option maxRecDepth 20000 in
theorem iw1_X9_about : ∀ w ∈ u_ws RX1 TX1 8, w ∈ wsX9_about := by decide +kernel
theorem mf152_X9_about : Cond.fieldLink RX9 152 "GasVoyages$Balloon" "level" "I" ∈ wsX9_about := by decide +kernel
theorem mf155_X9_about : Cond.fieldLink RX9 155 "GasVoyages$Balloon" "gas" "I" ∈ wsX9_about := by decide +kernel
theorem mf158_X9_about : Cond.fieldLink RX9 158 "GasVoyages$Balloon" "ballast" "I" ∈ wsX9_about := by decide +kernel
theorem mf161_X9_about : Cond.fieldLink RX9 161 "GasVoyages$Balloon" "tick" "I" ∈ wsX9_about := by decide +kernel
theorem mf125_X9_about : Cond.fieldLink RX9 125 "GasVoyages$Balloon" "landed" "Z" ∈ wsX9_about := by decide +kernel
theorem mf131_X9_about : Cond.fieldLink RX9 131 "GasVoyages$Flight" "entries" "I" ∈ wsX9_about := by decide +kernel
theorem mf19_X9_about : Cond.fieldLink RX9 19 "GasVoyages" "air" "LGasVoyages$Air;" ∈ wsX9_about := by decide +kernel
theorem mf168_X9_about : Cond.fieldLink RX9 168 "GasVoyages$Balloon" "vented" "I" ∈ wsX9_about := by decide +kernel
theorem mc141_X9_about : Cond.constant RX9 141 (-100000) ∈ wsX9_about := by decide +kernel
def f_X9_about (σ : St) (p1 : Int32) (p2 : Int32) : Option Int32 := if (f_X9_isFlight σ p1) = 0 then (some (-100000)) else (Option.bind (inB 8 p1) fun j3 => if p2 = 0 then (some (f_X9_xOf (σ.1 ((40 + 4 * j3) + 1) 0))) else (if p2 = 1 then (some (f_X9_yOf (σ.1 ((40 + 4 * j3) + 1) 0))) else (if p2 = 2 then (some (σ.1 ((40 + 4 * j3) + 1) 1)) else (if p2 = 3 then (some (σ.1 ((40 + 4 * j3) + 1) 4)) else (if p2 = 4 then (some (σ.1 ((40 + 4 * j3) + 1) 5)) else (if p2 = 5 then (some (σ.1 ((40 + 4 * j3) + 1) 2)) else (if p2 = 6 then (if (σ.1 ((40 + 4 * j3) + 1) 7) = 0 then (some 0) else (some 1)) else (if p2 = 7 then (some (σ.1 (40 + 4 * j3) 3)) else (if p2 = 8 then (Option.bind (f_X1_liftLessWeight σ ((40 + 4 * j3) + 1)) fun v15 => some v15) else (if p2 = 9 then (some (σ.1 ((40 + 4 * j3) + 1) 6)) else (some (-100000))))))))))))
set_option maxRecDepth 100000 in
set_option maxHeartbeats 4000000 in
theorem c_X9_about (l : Launch) (G : Gp) (A : Nat → Prop) (σ : St) (p1 : Int32) (p2 : Int32) {r : Int32} (h : f_X9_about σ p1 p2 = some r) : Ki l yX9_about wsX9_about 2 G A [.ref (ad G 0), .int p1, .int p2] σ r σ := by
  unfold f_X9_about at h
  refine r_start (ws := wsX9_about) (d := 2) (by decide) rfl [.ref (ad G 0), .int p1, .int p2] (Nat.le_of_ble_eq_true rfl) ?_
  intro p e s m below meth c S hr hlocks hE hw ls hl
  have hl : lv_has ls 5 [(0, .ref (ad G 0)), (1, .int p1), (2, .int p2)] := hl
  obtain ⟨hx, hb, hml, hown, hts⟩ := id S
  refine lv_aload_n hx hb dX9_about_0 rfl (lv_at hl 0 rfl) ?_
  refine lv_iload_n hx hb dX9_about_1 rfl (lv_at hl 1 rfl) ?_
  refine r_cz (r_runV (k := 0) (ci := 9) (As := [.int p1]) (rest := []) S hE hw (c_X9_isFlight  l G A σ p1) (cwV 1 hts gX9_about_X9_isFlight rfl rfl rfl (by decide +kernel) ⟨Nat.le_of_ble_eq_true rfl, Nat.le_of_ble_eq_true rfl⟩) rfl rfl (by decide) rfl hl.1 rfl (Nat.le_of_ble_eq_true rfl) ⟨Nat.zero_le _, Nat.zero_le _⟩ dX9_about_2) hw (fun H locs hw hb1 => ?_)
  refine lv_if_ne (tgt := 11) hx hb dX9_about_5 (by decide) (fun c2 => ?_) (fun c2 => ?_)
  · have h := if_f c2 h
    refine lv_aload_n hx hb dX9_about_11 rfl (lv_at hl 0 rfl) ?_
    refine r_gr S hE hw 2 13 iw9_X9_about rfl rfl (by decide) rfl (hts _ mf25_X9_about) dX9_about_12 ?_
    refine lv_iload_n hx hb dX9_about_15 rfl (lv_at hl 1 rfl) ?_
    obtain ⟨j3, gj3, h⟩ := oB_out h
    refine r_rf S hE hw ⟨rfl, rfl⟩ gj3 dX9_about_16 ?_
    have hf4 := kd_fl (inB_in gj3).2.2
    refine lv_astore_n (lv' := [(3, .ref (ad G (40 + 4 * j3))), (0, .ref (ad G 0)), (1, .int p1), (2, .int p2)]) hx hb dX9_about_17 rfl hl (by decide) rfl (fun ls hl => ?_)
    refine lv_aload_n hx hb dX9_about_18 rfl (lv_at hl 0 rfl) ?_
    refine r_gr S hE hw 0 ((40 + 4 * j3) + 1) iw3_X9_about hf4 rfl (by decide) rfl (hts _ mf121_X9_about) dX9_about_19 ?_
    refine lv_astore (lv' := [(4, .ref (ad G ((40 + 4 * j3) + 1))), (3, .ref (ad G (40 + 4 * j3))), (0, .ref (ad G 0)), (1, .int p1), (2, .int p2)]) hx hb dX9_about_22 hl (by decide) rfl (fun ls hl => ?_)
    refine lv_iload_n hx hb dX9_about_24 rfl (lv_at hl 4 rfl) ?_
    by_cases c5 : p2 = 0
    · have h := if_t c5 h
      refine lv_tableIn (off := 55) (tgt := 80) hx hb dX9_about_25 (by rw [c5]; decide) (by rw [c5]; decide) (by rw [c5]; rfl) (by decide) ?_
      refine lv_aload hx hb dX9_about_80 (lv_at hl 0 rfl) ?_
      refine r_gi S hE hw 0 iw1_X9_about (kf_b hf4) rfl (by decide) (hts _ mf142_X9_about) dX9_about_82 ?_
      refine r_ci (r_runS (As := [.int (σ.1 ((40 + 4 * j3) + 1) 0)]) (rest := []) S hE hw (c_X9_xOf  l G A σ (σ.1 ((40 + 4 * j3) + 1) 0)) (va_cwS 1 hts gX9_about_X9_xOf rfl rfl rfl (by decide +kernel) ⟨Nat.le_of_ble_eq_true rfl, Nat.le_of_ble_eq_true rfl⟩) rfl hl.1 rfl (Nat.le_of_ble_eq_true rfl) ⟨Nat.zero_le _, Nat.zero_le _⟩ dX9_about_85) hw (fun H locs hw => ?_)
      obtain rfl := Option.some.inj h
      exact r_iret S hr hlocks hw dX9_about_88
    have h := if_f c5 h
    by_cases c6 : p2 = 1
    · have h := if_t c6 h
      refine lv_tableIn (off := 64) (tgt := 89) hx hb dX9_about_25 (by rw [c6]; decide) (by rw [c6]; decide) (by rw [c6]; rfl) (by decide) ?_
      refine lv_aload hx hb dX9_about_89 (lv_at hl 0 rfl) ?_
      refine r_gi S hE hw 0 iw1_X9_about (kf_b hf4) rfl (by decide) (hts _ mf142_X9_about) dX9_about_91 ?_
      refine r_ci (r_runS (As := [.int (σ.1 ((40 + 4 * j3) + 1) 0)]) (rest := []) S hE hw (c_X9_yOf  l G A σ (σ.1 ((40 + 4 * j3) + 1) 0)) (va_cwS 1 hts gX9_about_X9_yOf rfl rfl rfl (by decide +kernel) ⟨Nat.le_of_ble_eq_true rfl, Nat.le_of_ble_eq_true rfl⟩) rfl hl.1 rfl (Nat.le_of_ble_eq_true rfl) ⟨Nat.zero_le _, Nat.zero_le _⟩ dX9_about_94) hw (fun H locs hw => ?_)
      obtain rfl := Option.some.inj h
      exact r_iret S hr hlocks hw dX9_about_97
    have h := if_f c6 h
    by_cases c7 : p2 = 2
    · have h := if_t c7 h
      refine lv_tableIn (off := 73) (tgt := 98) hx hb dX9_about_25 (by rw [c7]; decide) (by rw [c7]; decide) (by rw [c7]; rfl) (by decide) ?_
      refine lv_aload hx hb dX9_about_98 (lv_at hl 0 rfl) ?_
      refine r_gi S hE hw 1 iw1_X9_about (kf_b hf4) rfl (by decide) (hts _ mf152_X9_about) dX9_about_100 ?_
      obtain rfl := Option.some.inj h
      exact r_iret S hr hlocks hw dX9_about_103
    have h := if_f c7 h
    by_cases c8 : p2 = 3
    · have h := if_t c8 h
      refine lv_tableIn (off := 79) (tgt := 104) hx hb dX9_about_25 (by rw [c8]; decide) (by rw [c8]; decide) (by rw [c8]; rfl) (by decide) ?_
      refine lv_aload hx hb dX9_about_104 (lv_at hl 0 rfl) ?_
      refine r_gi S hE hw 4 iw1_X9_about (kf_b hf4) rfl (by decide) (hts _ mf155_X9_about) dX9_about_106 ?_
      obtain rfl := Option.some.inj h
      exact r_iret S hr hlocks hw dX9_about_109
    have h := if_f c8 h
    by_cases c9 : p2 = 4
    · have h := if_t c9 h
      refine lv_tableIn (off := 85) (tgt := 110) hx hb dX9_about_25 (by rw [c9]; decide) (by rw [c9]; decide) (by rw [c9]; rfl) (by decide) ?_
      refine lv_aload hx hb dX9_about_110 (lv_at hl 0 rfl) ?_
      refine r_gi S hE hw 5 iw1_X9_about (kf_b hf4) rfl (by decide) (hts _ mf158_X9_about) dX9_about_112 ?_
      obtain rfl := Option.some.inj h
      exact r_iret S hr hlocks hw dX9_about_115
    have h := if_f c9 h
    by_cases c10 : p2 = 5
    · have h := if_t c10 h
      refine lv_tableIn (off := 91) (tgt := 116) hx hb dX9_about_25 (by rw [c10]; decide) (by rw [c10]; decide) (by rw [c10]; rfl) (by decide) ?_
      refine lv_aload hx hb dX9_about_116 (lv_at hl 0 rfl) ?_
      refine r_gi S hE hw 2 iw1_X9_about (kf_b hf4) rfl (by decide) (hts _ mf161_X9_about) dX9_about_118 ?_
      obtain rfl := Option.some.inj h
      exact r_iret S hr hlocks hw dX9_about_121
    have h := if_f c10 h
    by_cases c11 : p2 = 6
    · have h := if_t c11 h
      refine lv_tableIn (off := 97) (tgt := 122) hx hb dX9_about_25 (by rw [c11]; decide) (by rw [c11]; decide) (by rw [c11]; rfl) (by decide) ?_
      refine lv_aload hx hb dX9_about_122 (lv_at hl 0 rfl) ?_
      refine r_gi S hE hw 7 iw1_X9_about (kf_b hf4) rfl (by decide) (hts _ mf125_X9_about) dX9_about_124 ?_
      refine lv_if_eq (tgt := 134) hx hb dX9_about_127 (by decide) (fun c12 => ?_) (fun c12 => ?_)
      · have h := if_t c12 h
        refine lv_iconst (v := 0) hx hb dX9_about_134 (by decide) ?_
        obtain rfl := Option.some.inj h
        exact r_iret S hr hlocks hw dX9_about_135
      · have h := if_f c12 h
        refine lv_iconst (v := 1) hx hb dX9_about_130 (by decide) ?_
        refine lv_goto (tgt := 135) hx hb dX9_about_131 (by decide) ?_
        obtain rfl := Option.some.inj h
        exact r_iret S hr hlocks hw dX9_about_135
    have h := if_f c11 h
    by_cases c13 : p2 = 7
    · have h := if_t c13 h
      refine lv_tableIn (off := 111) (tgt := 136) hx hb dX9_about_25 (by rw [c13]; decide) (by rw [c13]; decide) (by rw [c13]; rfl) (by decide) ?_
      refine lv_aload_n hx hb dX9_about_136 rfl (lv_at hl 1 rfl) ?_
      refine r_gi S hE hw 3 iw3_X9_about hf4 rfl (by decide) (hts _ mf131_X9_about) dX9_about_137 ?_
      obtain rfl := Option.some.inj h
      exact r_iret S hr hlocks hw dX9_about_140
    have h := if_f c13 h
    by_cases c14 : p2 = 8
    · have h := if_t c14 h
      refine lv_tableIn (off := 116) (tgt := 141) hx hb dX9_about_25 (by rw [c14]; decide) (by rw [c14]; decide) (by rw [c14]; rfl) (by decide) ?_
      refine lv_aload hx hb dX9_about_141 (lv_at hl 0 rfl) ?_
      refine lv_aload_n hx hb dX9_about_143 rfl (lv_at hl 2 rfl) ?_
      refine r_gr S hE hw 1 3 iw9_X9_about rfl rfl (by decide) rfl (hts _ mf19_X9_about) dX9_about_144 ?_
      obtain ⟨v15, gv15, h⟩ := oB_out h
      refine r_ci (r_runV (k := (40 + 4 * j3) + 1) (ci := 1) (As := [.ref (ad G 3)]) (rest := []) S hE hw (c_X1_liftLessWeight  l G A σ ((40 + 4 * j3) + 1) (kf_b hf4) gv15) (cwV 1 hts gX9_about_X1_liftLessWeight rfl rfl rfl (by decide +kernel) ⟨Nat.le_of_ble_eq_true rfl, Nat.le_of_ble_eq_true rfl⟩) (kf_b hf4) rfl (by decide) rfl hl.1 rfl (Nat.le_of_ble_eq_true rfl) ⟨Nat.zero_le _, Nat.zero_le _⟩ dX9_about_147) hw (fun H locs hw => ?_)
      obtain rfl := Option.some.inj h
      exact r_iret S hr hlocks hw dX9_about_150
    have h := if_f c14 h
    by_cases c16 : p2 = 9
    · have h := if_t c16 h
      refine lv_tableIn (off := 126) (tgt := 151) hx hb dX9_about_25 (by rw [c16]; decide) (by rw [c16]; decide) (by rw [c16]; rfl) (by decide) ?_
      refine lv_aload hx hb dX9_about_151 (lv_at hl 0 rfl) ?_
      refine r_gi S hE hw 6 iw1_X9_about (kf_b hf4) rfl (by decide) (hts _ mf168_X9_about) dX9_about_153 ?_
      obtain rfl := Option.some.inj h
      exact r_iret S hr hlocks hw dX9_about_156
    have h := if_f c16 h
    refine lv_tableOut (tgt := 157) hx hb dX9_about_25 (sw10_out c5 c6 c7 c8 c9 c10 c11 c13 c14 c16) (by decide) ?_
    refine lv_ldc (v := (-100000)) hx hb hown (hts _ mc141_X9_about) dX9_about_157 ?_
    obtain rfl := Option.some.inj h
    exact r_iret S hr hlocks hw dX9_about_159
  · have h := if_t c2 h
    refine lv_ldc (v := (-100000)) hx hb hown (hts _ mc141_X9_about) dX9_about_8 ?_
    obtain rfl := Option.some.inj h
    exact r_iret S hr hlocks hw dX9_about_10


theorem mf25_X9_distance : Cond.fieldLink RX9 25 "GasVoyages" "flights" "[LGasVoyages$Flight;" ∈ wsX9_distance := by decide +kernel
set_option maxRecDepth 20000 in
theorem iw9_X9_distance : ∀ w ∈ u_ws RX9 TX9 8, w ∈ wsX9_distance := by decide +kernel
def f_X9_distance (σ : St) (p1 : Int32) : Option Int32 := if (f_X9_isFlight σ p1) = 0 then (some (-2)) else (Option.bind (inB 8 p1) fun j3 => Option.bind (f_X3_flown σ (40 + 4 * j3)) fun v5 => some v5)
set_option maxRecDepth 100000 in
set_option maxHeartbeats 4000000 in
theorem c_X9_distance (l : Launch) (G : Gp) (A : Nat → Prop) (σ : St) (p1 : Int32) {r : Int32} (h : f_X9_distance σ p1 = some r) : Ki l yX9_distance wsX9_distance 3 G A [.ref (ad G 0), .int p1] σ r σ := by
  unfold f_X9_distance at h
  refine r_start (ws := wsX9_distance) (d := 3) (by decide) rfl [.ref (ad G 0), .int p1] (Nat.le_of_ble_eq_true rfl) ?_
  intro p e s m below meth c S hr hlocks hE hw ls hl
  have hl : lv_has ls 2 [(0, .ref (ad G 0)), (1, .int p1)] := hl
  obtain ⟨hx, hb, hml, hown, hts⟩ := id S
  refine lv_aload_n hx hb dX9_distance_0 rfl (lv_at hl 0 rfl) ?_
  refine lv_iload_n hx hb dX9_distance_1 rfl (lv_at hl 1 rfl) ?_
  refine r_cz (r_runV (k := 0) (ci := 9) (As := [.int p1]) (rest := []) S hE hw (c_X9_isFlight  l G A σ p1) (cwV 1 hts gX9_distance_X9_isFlight rfl rfl rfl (by decide +kernel) ⟨Nat.le_of_ble_eq_true rfl, Nat.le_of_ble_eq_true rfl⟩) rfl rfl (by decide) rfl hl.1 rfl (Nat.le_of_ble_eq_true rfl) ⟨Nat.zero_le _, Nat.zero_le _⟩ dX9_distance_2) hw (fun H locs hw hb1 => ?_)
  refine lv_if_ne (tgt := 11) hx hb dX9_distance_5 (by decide) (fun c2 => ?_) (fun c2 => ?_)
  · have h := if_f c2 h
    refine lv_aload_n hx hb dX9_distance_11 rfl (lv_at hl 0 rfl) ?_
    refine r_gr S hE hw 2 13 iw9_X9_distance rfl rfl (by decide) rfl (hts _ mf25_X9_distance) dX9_distance_12 ?_
    refine lv_iload_n hx hb dX9_distance_15 rfl (lv_at hl 1 rfl) ?_
    obtain ⟨j3, gj3, h⟩ := oB_out h
    refine r_rf S hE hw ⟨rfl, rfl⟩ gj3 dX9_distance_16 ?_
    have hf4 := kd_fl (inB_in gj3).2.2
    obtain ⟨v5, gv5, h⟩ := oB_out h
    refine r_ci (r_runV (k := 40 + 4 * j3) (ci := 3) (As := []) (rest := []) S hE hw (c_X3_flown  l G A σ (40 + 4 * j3) hf4 gv5) (cwV 0 hts gX9_distance_X3_flown rfl rfl rfl (by decide +kernel) ⟨Nat.le_of_ble_eq_true rfl, Nat.le_of_ble_eq_true rfl⟩) hf4 rfl (by decide) rfl hl.1 rfl (Nat.le_of_ble_eq_true rfl) ⟨Nat.zero_le _, Nat.zero_le _⟩ dX9_distance_17) hw (fun H locs hw => ?_)
    obtain rfl := Option.some.inj h
    exact r_iret S hr hlocks hw dX9_distance_20
  · have h := if_t c2 h
    refine lv_bipush (v := (-2)) hx hb dX9_distance_8 (by decide) ?_
    obtain rfl := Option.some.inj h
    exact r_iret S hr hlocks hw dX9_distance_10


def f_X9_mayPlan (σ : St) (p1 : Int32) (p2 : Int32) (p3 : Int32) : Int32 := if (f_X9_isFlight σ p1) = 0 then (0) else (if (f_X9_within p2 1 6) = 0 then (0) else (if (f_X9_within p3 1 50) = 0 then (0) else (1)))
set_option maxRecDepth 100000 in
set_option maxHeartbeats 4000000 in
theorem c_X9_mayPlan (l : Launch) (G : Gp) (A : Nat → Prop) (σ : St) (p1 : Int32) (p2 : Int32) (p3 : Int32) : Kz l yX9_mayPlan wsX9_mayPlan 2 G A [.ref (ad G 0), .int p1, .int p2, .int p3] σ (f_X9_mayPlan σ p1 p2 p3) σ := by
  obtain ⟨r, h⟩ : ∃ r, f_X9_mayPlan σ p1 p2 p3 = r := ⟨_, rfl⟩
  rw [h]
  unfold f_X9_mayPlan at h
  refine r_start (ws := wsX9_mayPlan) (d := 2) (by decide) rfl [.ref (ad G 0), .int p1, .int p2, .int p3] (Nat.le_of_ble_eq_true rfl) ?_
  intro p e s m below meth c S hr hlocks hE hw ls hl
  have hl : lv_has ls 4 [(0, .ref (ad G 0)), (1, .int p1), (2, .int p2), (3, .int p3)] := hl
  obtain ⟨hx, hb, hml, hown, hts⟩ := id S
  refine lv_aload_n hx hb dX9_mayPlan_0 rfl (lv_at hl 0 rfl) ?_
  refine lv_iload_n hx hb dX9_mayPlan_1 rfl (lv_at hl 1 rfl) ?_
  refine r_cz (r_runV (k := 0) (ci := 9) (As := [.int p1]) (rest := []) S hE hw (c_X9_isFlight  l G A σ p1) (cwV 1 hts gX9_mayPlan_X9_isFlight rfl rfl rfl (by decide +kernel) ⟨Nat.le_of_ble_eq_true rfl, Nat.le_of_ble_eq_true rfl⟩) rfl rfl (by decide) rfl hl.1 rfl (Nat.le_of_ble_eq_true rfl) ⟨Nat.zero_le _, Nat.zero_le _⟩ dX9_mayPlan_2) hw (fun H locs hw hb1 => ?_)
  refine lv_if_eq (tgt := 32) hx hb dX9_mayPlan_5 (by decide) (fun c2 => ?_) (fun c2 => ?_)
  · have h := if_t c2 h
    refine lv_iconst (v := 0) hx hb dX9_mayPlan_32 (by decide) ?_
    subst h
    exact r_zret S hr hlocks hw (Or.inl rfl) dX9_mayPlan_33
  · have h := if_f c2 h
    refine lv_iload_n hx hb dX9_mayPlan_8 rfl (lv_at hl 2 rfl) ?_
    refine lv_iconst (v := 1) hx hb dX9_mayPlan_9 (by decide) ?_
    refine lv_bipush (v := 6) hx hb dX9_mayPlan_10 (by decide) ?_
    refine r_cz (r_runS (As := [.int p2, .int 1, .int 6]) (rest := []) S hE hw (c_X9_within  l G A σ p2 1 6) (va_cwS 3 hts gX9_mayPlan_X9_within rfl rfl rfl (by decide +kernel) ⟨Nat.le_of_ble_eq_true rfl, Nat.le_of_ble_eq_true rfl⟩) rfl hl.1 rfl (Nat.le_of_ble_eq_true rfl) ⟨Nat.zero_le _, Nat.zero_le _⟩ dX9_mayPlan_12) hw (fun H locs hw hb3 => ?_)
    refine lv_if_eq (tgt := 32) hx hb dX9_mayPlan_15 (by decide) (fun c4 => ?_) (fun c4 => ?_)
    · have h := if_t c4 h
      refine lv_iconst (v := 0) hx hb dX9_mayPlan_32 (by decide) ?_
      subst h
      exact r_zret S hr hlocks hw (Or.inl rfl) dX9_mayPlan_33
    · have h := if_f c4 h
      refine lv_iload_n hx hb dX9_mayPlan_18 rfl (lv_at hl 3 rfl) ?_
      refine lv_iconst (v := 1) hx hb dX9_mayPlan_19 (by decide) ?_
      refine lv_bipush (v := 50) hx hb dX9_mayPlan_20 (by decide) ?_
      refine r_cz (r_runS (As := [.int p3, .int 1, .int 50]) (rest := []) S hE hw (c_X9_within  l G A σ p3 1 50) (va_cwS 3 hts gX9_mayPlan_X9_within rfl rfl rfl (by decide +kernel) ⟨Nat.le_of_ble_eq_true rfl, Nat.le_of_ble_eq_true rfl⟩) rfl hl.1 rfl (Nat.le_of_ble_eq_true rfl) ⟨Nat.zero_le _, Nat.zero_le _⟩ dX9_mayPlan_22) hw (fun H locs hw hb5 => ?_)
      refine lv_if_eq (tgt := 32) hx hb dX9_mayPlan_25 (by decide) (fun c6 => ?_) (fun c6 => ?_)
      · have h := if_t c6 h
        refine lv_iconst (v := 0) hx hb dX9_mayPlan_32 (by decide) ?_
        subst h
        exact r_zret S hr hlocks hw (Or.inl rfl) dX9_mayPlan_33
      · have h := if_f c6 h
        refine lv_iconst (v := 1) hx hb dX9_mayPlan_28 (by decide) ?_
        refine lv_goto (tgt := 33) hx hb dX9_mayPlan_29 (by decide) ?_
        subst h
        exact r_zret S hr hlocks hw (Or.inr rfl) dX9_mayPlan_33


theorem mf12_X9_plan : Cond.fieldLink RX9 12 "GasVoyages" "ground" "LGasVoyages$Land;" ∈ wsX9_plan := by decide +kernel
set_option maxRecDepth 20000 in
theorem iw9_X9_plan : ∀ w ∈ u_ws RX9 TX9 8, w ∈ wsX9_plan := by decide +kernel
theorem mf25_X9_plan : Cond.fieldLink RX9 25 "GasVoyages" "flights" "[LGasVoyages$Flight;" ∈ wsX9_plan := by decide +kernel
theorem mf121_X9_plan : Cond.fieldLink RX9 121 "GasVoyages$Flight" "balloon" "LGasVoyages$Balloon;" ∈ wsX9_plan := by decide +kernel
set_option maxRecDepth 20000 in
theorem iw3_X9_plan : ∀ w ∈ u_ws RX3 TX3 7, w ∈ wsX9_plan := by decide +kernel
theorem mf125_X9_plan : Cond.fieldLink RX9 125 "GasVoyages$Balloon" "landed" "Z" ∈ wsX9_plan := by decide +kernel
set_option maxRecDepth 20000 in
theorem iw1_X9_plan : ∀ w ∈ u_ws RX1 TX1 8, w ∈ wsX9_plan := by decide +kernel
theorem mf42_X9_plan : Cond.fieldLink RX9 42 "GasVoyages" "planner" "LGasVoyages$Planner;" ∈ wsX9_plan := by decide +kernel
def f_X9_plan (σ : St) (p1 : Int32) (p2 : Int32) (p3 : Int32) (p4 : Int32) (p5 : Int32) : Option (Int32 × St) := if (f_X9_mayPlan σ p1 p2 p3) = 0 then (some ((-2), σ)) else (if (f_X5_has σ p4 p5) = 0 then (some ((-2), σ)) else (Option.bind (inB 8 p1) fun j5 => if (σ.1 ((40 + 4 * j5) + 1) 7) = 0 then (oB2 (f_X6_best σ ((40 + 4 * j5) + 1) p2 p3 (f_X9_cellOf p4 p5) 1) fun v8 s9 => some (v8, s9)) else (some ((-3), σ))))
set_option maxRecDepth 100000 in
set_option maxHeartbeats 4000000 in
theorem c_X9_plan (l : Launch) (G : Gp) (A : Nat → Prop) (σ : St) (p1 : Int32) (p2 : Int32) (p3 : Int32) (p4 : Int32) (p5 : Int32) {r : Int32} {σ' : St} (h : f_X9_plan σ p1 p2 p3 p4 p5 = some (r, σ')) : Ki l yX9_plan wsX9_plan 15 G A [.ref (ad G 0), .int p1, .int p2, .int p3, .int p4, .int p5] σ r σ' := by
  unfold f_X9_plan at h
  refine r_start (ws := wsX9_plan) (d := 15) (by decide) rfl [.ref (ad G 0), .int p1, .int p2, .int p3, .int p4, .int p5] (Nat.le_of_ble_eq_true rfl) ?_
  intro p e s m below meth c S hr hlocks hE hw ls hl
  have hl : lv_has ls 7 [(0, .ref (ad G 0)), (1, .int p1), (2, .int p2), (3, .int p3), (4, .int p4), (5, .int p5)] := hl
  obtain ⟨hx, hb, hml, hown, hts⟩ := id S
  refine lv_aload_n hx hb dX9_plan_0 rfl (lv_at hl 0 rfl) ?_
  refine lv_iload_n hx hb dX9_plan_1 rfl (lv_at hl 1 rfl) ?_
  refine lv_iload_n hx hb dX9_plan_2 rfl (lv_at hl 2 rfl) ?_
  refine lv_iload_n hx hb dX9_plan_3 rfl (lv_at hl 3 rfl) ?_
  refine r_cz (r_runV (k := 0) (ci := 9) (As := [.int p1, .int p2, .int p3]) (rest := []) S hE hw (c_X9_mayPlan  l G A σ p1 p2 p3) (cwV 3 hts gX9_plan_X9_mayPlan rfl rfl rfl (by decide +kernel) ⟨Nat.le_of_ble_eq_true rfl, Nat.le_of_ble_eq_true rfl⟩) rfl rfl (by decide) rfl hl.1 rfl (Nat.le_of_ble_eq_true rfl) ⟨Nat.zero_le _, Nat.zero_le _⟩ dX9_plan_4) hw (fun H locs hw hb1 => ?_)
  refine lv_if_eq (tgt := 24) hx hb dX9_plan_7 (by decide) (fun c2 => ?_) (fun c2 => ?_)
  · have h := if_t c2 h
    refine lv_bipush (v := (-2)) hx hb dX9_plan_24 (by decide) ?_
    obtain ⟨rfl, rfl⟩ := rt2 h
    exact r_iret S hr hlocks hw dX9_plan_26
  · have h := if_f c2 h
    refine lv_aload_n hx hb dX9_plan_10 rfl (lv_at hl 0 rfl) ?_
    refine r_gr S hE hw 0 1 iw9_X9_plan rfl rfl (by decide) rfl (hts _ mf12_X9_plan) dX9_plan_11 ?_
    refine lv_iload hx hb dX9_plan_14 (lv_at hl 4 rfl) ?_
    refine lv_iload hx hb dX9_plan_16 (lv_at hl 5 rfl) ?_
    refine r_cz (r_runV (k := 1) (ci := 5) (As := [.int p4, .int p5]) (rest := []) S hE hw (c_X5_has  l G A σ p4 p5) (cwV 2 hts gX9_plan_X5_has rfl rfl rfl (by decide +kernel) ⟨Nat.le_of_ble_eq_true rfl, Nat.le_of_ble_eq_true rfl⟩) rfl rfl (by decide) rfl hl.1 rfl (Nat.le_of_ble_eq_true rfl) ⟨Nat.zero_le _, Nat.zero_le _⟩ dX9_plan_18) hw (fun H locs hw hb3 => ?_)
    refine lv_if_ne (tgt := 27) hx hb dX9_plan_21 (by decide) (fun c4 => ?_) (fun c4 => ?_)
    · have h := if_f c4 h
      refine lv_aload_n hx hb dX9_plan_27 rfl (lv_at hl 0 rfl) ?_
      refine r_gr S hE hw 2 13 iw9_X9_plan rfl rfl (by decide) rfl (hts _ mf25_X9_plan) dX9_plan_28 ?_
      refine lv_iload_n hx hb dX9_plan_31 rfl (lv_at hl 1 rfl) ?_
      obtain ⟨j5, gj5, h⟩ := oB_out h
      refine r_rf S hE hw ⟨rfl, rfl⟩ gj5 dX9_plan_32 ?_
      have hf6 := kd_fl (inB_in gj5).2.2
      refine r_gr S hE hw 0 ((40 + 4 * j5) + 1) iw3_X9_plan hf6 rfl (by decide) rfl (hts _ mf121_X9_plan) dX9_plan_33 ?_
      refine lv_astore (lv' := [(6, .ref (ad G ((40 + 4 * j5) + 1))), (0, .ref (ad G 0)), (1, .int p1), (2, .int p2), (3, .int p3), (4, .int p4), (5, .int p5)]) hx hb dX9_plan_36 hl (by decide) rfl (fun ls hl => ?_)
      refine lv_aload hx hb dX9_plan_38 (lv_at hl 0 rfl) ?_
      refine r_gi S hE hw 7 iw1_X9_plan (kf_b hf6) rfl (by decide) (hts _ mf125_X9_plan) dX9_plan_40 ?_
      refine lv_if_eq (tgt := 49) hx hb dX9_plan_43 (by decide) (fun c7 => ?_) (fun c7 => ?_)
      · have h := if_t c7 h
        refine lv_aload_n hx hb dX9_plan_49 rfl (lv_at hl 1 rfl) ?_
        refine r_gr S hE hw 5 15 iw9_X9_plan rfl rfl (by decide) rfl (hts _ mf42_X9_plan) dX9_plan_50 ?_
        refine lv_aload hx hb dX9_plan_53 (lv_at hl 0 rfl) ?_
        refine lv_iload_n hx hb dX9_plan_55 rfl (lv_at hl 3 rfl) ?_
        refine lv_iload_n hx hb dX9_plan_56 rfl (lv_at hl 4 rfl) ?_
        refine lv_iload hx hb dX9_plan_57 (lv_at hl 5 rfl) ?_
        refine lv_iload hx hb dX9_plan_59 (lv_at hl 6 rfl) ?_
        refine r_ci (r_runS (As := [.int p4, .int p5]) (rest := [.int p3, .int p2, .ref (ad G ((40 + 4 * j5) + 1)), .ref (ad G 15)]) S hE hw (c_X9_cellOf  l G A σ p4 p5) (va_cwS 2 hts gX9_plan_X9_cellOf rfl rfl rfl (by decide +kernel) ⟨Nat.le_of_ble_eq_true rfl, Nat.le_of_ble_eq_true rfl⟩) rfl hl.1 rfl (Nat.le_of_ble_eq_true rfl) ⟨Nat.zero_le _, Nat.zero_le _⟩ dX9_plan_61) hw (fun H locs hw => ?_)
        refine lv_iconst (v := 1) hx hb dX9_plan_64 (by decide) ?_
        obtain ⟨v8, s9, gv8, h⟩ := oB2_out h
        refine r_ci (r_runV (k := 15) (ci := 6) (As := [.ref (ad G ((40 + 4 * j5) + 1)), .int p2, .int p3, .int (f_X9_cellOf p4 p5), .int 1]) (rest := []) S hE hw (c_X6_best  l G A σ ((40 + 4 * j5) + 1) p2 p3 (f_X9_cellOf p4 p5) 1 (kf_b hf6) gv8) (cwV 5 hts gX9_plan_X6_best rfl rfl rfl (by decide +kernel) ⟨Nat.le_of_ble_eq_true rfl, Nat.le_of_ble_eq_true rfl⟩) rfl rfl (by decide) rfl hl.1 rfl (Nat.le_of_ble_eq_true rfl) ⟨Nat.zero_le _, Nat.zero_le _⟩ dX9_plan_65) hw (fun H locs hw => ?_)
        obtain ⟨rfl, rfl⟩ := rt2 h
        exact r_iret S hr hlocks hw dX9_plan_68
      · have h := if_f c7 h
        refine lv_bipush (v := (-3)) hx hb dX9_plan_46 (by decide) ?_
        obtain ⟨rfl, rfl⟩ := rt2 h
        exact r_iret S hr hlocks hw dX9_plan_48
    · have h := if_t c4 h
      refine lv_bipush (v := (-2)) hx hb dX9_plan_24 (by decide) ?_
      obtain ⟨rfl, rfl⟩ := rt2 h
      exact r_iret S hr hlocks hw dX9_plan_26


theorem mf25_X9_away : Cond.fieldLink RX9 25 "GasVoyages" "flights" "[LGasVoyages$Flight;" ∈ wsX9_away := by decide +kernel
set_option maxRecDepth 20000 in
theorem iw9_X9_away : ∀ w ∈ u_ws RX9 TX9 8, w ∈ wsX9_away := by decide +kernel
theorem mf121_X9_away : Cond.fieldLink RX9 121 "GasVoyages$Flight" "balloon" "LGasVoyages$Balloon;" ∈ wsX9_away := by decide +kernel
set_option maxRecDepth 20000 in
theorem iw3_X9_away : ∀ w ∈ u_ws RX3 TX3 7, w ∈ wsX9_away := by decide +kernel
theorem mf125_X9_away : Cond.fieldLink RX9 125 "GasVoyages$Balloon" "landed" "Z" ∈ wsX9_away := by decide +kernel
set_option maxRecDepth 20000 in
theorem iw1_X9_away : ∀ w ∈ u_ws RX1 TX1 8, w ∈ wsX9_away := by decide +kernel
theorem mf42_X9_away : Cond.fieldLink RX9 42 "GasVoyages" "planner" "LGasVoyages$Planner;" ∈ wsX9_away := by decide +kernel
theorem mf182_X9_away : Cond.fieldLink RX9 182 "GasVoyages$Flight" "startCell" "I" ∈ wsX9_away := by decide +kernel
def f_X9_away (σ : St) (p1 : Int32) (p2 : Int32) (p3 : Int32) : Option (Int32 × St) := if (f_X9_mayPlan σ p1 p2 p3) = 0 then (some ((-2), σ)) else (Option.bind (inB 8 p1) fun j3 => if (σ.1 ((40 + 4 * j3) + 1) 7) = 0 then (Option.bind (inB 8 p1) fun j6 => oB2 (f_X6_best σ ((40 + 4 * j3) + 1) p2 p3 (σ.1 (40 + 4 * j6) 5) 0) fun v8 s9 => some (v8, s9)) else (some ((-3), σ)))
set_option maxRecDepth 100000 in
set_option maxHeartbeats 4000000 in
theorem c_X9_away (l : Launch) (G : Gp) (A : Nat → Prop) (σ : St) (p1 : Int32) (p2 : Int32) (p3 : Int32) {r : Int32} {σ' : St} (h : f_X9_away σ p1 p2 p3 = some (r, σ')) : Ki l yX9_away wsX9_away 15 G A [.ref (ad G 0), .int p1, .int p2, .int p3] σ r σ' := by
  unfold f_X9_away at h
  refine r_start (ws := wsX9_away) (d := 15) (by decide) rfl [.ref (ad G 0), .int p1, .int p2, .int p3] (Nat.le_of_ble_eq_true rfl) ?_
  intro p e s m below meth c S hr hlocks hE hw ls hl
  have hl : lv_has ls 5 [(0, .ref (ad G 0)), (1, .int p1), (2, .int p2), (3, .int p3)] := hl
  obtain ⟨hx, hb, hml, hown, hts⟩ := id S
  refine lv_aload_n hx hb dX9_away_0 rfl (lv_at hl 0 rfl) ?_
  refine lv_iload_n hx hb dX9_away_1 rfl (lv_at hl 1 rfl) ?_
  refine lv_iload_n hx hb dX9_away_2 rfl (lv_at hl 2 rfl) ?_
  refine lv_iload_n hx hb dX9_away_3 rfl (lv_at hl 3 rfl) ?_
  refine r_cz (r_runV (k := 0) (ci := 9) (As := [.int p1, .int p2, .int p3]) (rest := []) S hE hw (c_X9_mayPlan  l G A σ p1 p2 p3) (cwV 3 hts gX9_away_X9_mayPlan rfl rfl rfl (by decide +kernel) ⟨Nat.le_of_ble_eq_true rfl, Nat.le_of_ble_eq_true rfl⟩) rfl rfl (by decide) rfl hl.1 rfl (Nat.le_of_ble_eq_true rfl) ⟨Nat.zero_le _, Nat.zero_le _⟩ dX9_away_4) hw (fun H locs hw hb1 => ?_)
  refine lv_if_ne (tgt := 13) hx hb dX9_away_7 (by decide) (fun c2 => ?_) (fun c2 => ?_)
  · have h := if_f c2 h
    refine lv_aload_n hx hb dX9_away_13 rfl (lv_at hl 0 rfl) ?_
    refine r_gr S hE hw 2 13 iw9_X9_away rfl rfl (by decide) rfl (hts _ mf25_X9_away) dX9_away_14 ?_
    refine lv_iload_n hx hb dX9_away_17 rfl (lv_at hl 1 rfl) ?_
    obtain ⟨j3, gj3, h⟩ := oB_out h
    refine r_rf S hE hw ⟨rfl, rfl⟩ gj3 dX9_away_18 ?_
    have hf4 := kd_fl (inB_in gj3).2.2
    refine r_gr S hE hw 0 ((40 + 4 * j3) + 1) iw3_X9_away hf4 rfl (by decide) rfl (hts _ mf121_X9_away) dX9_away_19 ?_
    refine lv_astore (lv' := [(4, .ref (ad G ((40 + 4 * j3) + 1))), (0, .ref (ad G 0)), (1, .int p1), (2, .int p2), (3, .int p3)]) hx hb dX9_away_22 hl (by decide) rfl (fun ls hl => ?_)
    refine lv_aload hx hb dX9_away_24 (lv_at hl 0 rfl) ?_
    refine r_gi S hE hw 7 iw1_X9_away (kf_b hf4) rfl (by decide) (hts _ mf125_X9_away) dX9_away_26 ?_
    refine lv_if_eq (tgt := 35) hx hb dX9_away_29 (by decide) (fun c5 => ?_) (fun c5 => ?_)
    · have h := if_t c5 h
      refine lv_aload_n hx hb dX9_away_35 rfl (lv_at hl 1 rfl) ?_
      refine r_gr S hE hw 5 15 iw9_X9_away rfl rfl (by decide) rfl (hts _ mf42_X9_away) dX9_away_36 ?_
      refine lv_aload hx hb dX9_away_39 (lv_at hl 0 rfl) ?_
      refine lv_iload_n hx hb dX9_away_41 rfl (lv_at hl 3 rfl) ?_
      refine lv_iload_n hx hb dX9_away_42 rfl (lv_at hl 4 rfl) ?_
      refine lv_aload_n hx hb dX9_away_43 rfl (lv_at hl 1 rfl) ?_
      refine r_gr S hE hw 2 13 iw9_X9_away rfl rfl (by decide) rfl (hts _ mf25_X9_away) dX9_away_44 ?_
      refine lv_iload_n hx hb dX9_away_47 rfl (lv_at hl 2 rfl) ?_
      obtain ⟨j6, gj6, h⟩ := oB_out h
      refine r_rf S hE hw ⟨rfl, rfl⟩ gj6 dX9_away_48 ?_
      have hf7 := kd_fl (inB_in gj6).2.2
      refine r_gi S hE hw 5 iw3_X9_away hf7 rfl (by decide) (hts _ mf182_X9_away) dX9_away_49 ?_
      refine lv_iconst (v := 0) hx hb dX9_away_52 (by decide) ?_
      obtain ⟨v8, s9, gv8, h⟩ := oB2_out h
      refine r_ci (r_runV (k := 15) (ci := 6) (As := [.ref (ad G ((40 + 4 * j3) + 1)), .int p2, .int p3, .int (σ.1 (40 + 4 * j6) 5), .int 0]) (rest := []) S hE hw (c_X6_best  l G A σ ((40 + 4 * j3) + 1) p2 p3 (σ.1 (40 + 4 * j6) 5) 0 (kf_b hf4) gv8) (cwV 5 hts gX9_away_X6_best rfl rfl rfl (by decide +kernel) ⟨Nat.le_of_ble_eq_true rfl, Nat.le_of_ble_eq_true rfl⟩) rfl rfl (by decide) rfl hl.1 rfl (Nat.le_of_ble_eq_true rfl) ⟨Nat.zero_le _, Nat.zero_le _⟩ dX9_away_53) hw (fun H locs hw => ?_)
      obtain ⟨rfl, rfl⟩ := rt2 h
      exact r_iret S hr hlocks hw dX9_away_56
    · have h := if_f c5 h
      refine lv_bipush (v := (-3)) hx hb dX9_away_32 (by decide) ?_
      obtain ⟨rfl, rfl⟩ := rt2 h
      exact r_iret S hr hlocks hw dX9_away_34
  · have h := if_t c2 h
    refine lv_bipush (v := (-2)) hx hb dX9_away_10 (by decide) ?_
    obtain ⟨rfl, rfl⟩ := rt2 h
    exact r_iret S hr hlocks hw dX9_away_12


theorem mf42_X9_order : Cond.fieldLink RX9 42 "GasVoyages" "planner" "LGasVoyages$Planner;" ∈ wsX9_order := by decide +kernel
set_option maxRecDepth 20000 in
theorem iw9_X9_order : ∀ w ∈ u_ws RX9 TX9 8, w ∈ wsX9_order := by decide +kernel
theorem mf185_X9_order : Cond.fieldLink RX9 185 "GasVoyages$Planner" "foundLength" "I" ∈ wsX9_order := by decide +kernel
set_option maxRecDepth 20000 in
theorem iw6_X9_order : ∀ w ∈ u_ws RX6 TX6 11, w ∈ wsX9_order := by decide +kernel
theorem mf188_X9_order : Cond.fieldLink RX9 188 "GasVoyages$Planner" "found" "[I" ∈ wsX9_order := by decide +kernel
def f_X9_order (σ : St) (p1 : Int32) : Option Int32 := if (f_X9_within p1 0 ((σ.1 15 5) - 1)) = 0 then (some (-1)) else (Option.bind (aL σ 18 6 p1) fun v3 => some v3)
set_option maxRecDepth 100000 in
set_option maxHeartbeats 4000000 in
theorem c_X9_order (l : Launch) (G : Gp) (A : Nat → Prop) (σ : St) (p1 : Int32) {r : Int32} (h : f_X9_order σ p1 = some r) : Ki l yX9_order wsX9_order 1 G A [.ref (ad G 0), .int p1] σ r σ := by
  unfold f_X9_order at h
  refine r_start (ws := wsX9_order) (d := 1) (by decide) rfl [.ref (ad G 0), .int p1] (Nat.le_of_ble_eq_true rfl) ?_
  intro p e s m below meth c S hr hlocks hE hw ls hl
  have hl : lv_has ls 2 [(0, .ref (ad G 0)), (1, .int p1)] := hl
  obtain ⟨hx, hb, hml, hown, hts⟩ := id S
  refine lv_iload_n hx hb dX9_order_0 rfl (lv_at hl 1 rfl) ?_
  refine lv_iconst (v := 0) hx hb dX9_order_1 (by decide) ?_
  refine lv_aload_n hx hb dX9_order_2 rfl (lv_at hl 0 rfl) ?_
  refine r_gr S hE hw 5 15 iw9_X9_order rfl rfl (by decide) rfl (hts _ mf42_X9_order) dX9_order_3 ?_
  refine r_gi S hE hw 5 iw6_X9_order rfl rfl (by decide) (hts _ mf185_X9_order) dX9_order_6 ?_
  refine lv_iconst (v := 1) hx hb dX9_order_9 (by decide) ?_
  refine lv_isub hx hb dX9_order_10 ?_
  refine r_cz (r_runS (As := [.int p1, .int 0, .int ((σ.1 15 5) - 1)]) (rest := []) S hE hw (c_X9_within  l G A σ p1 0 ((σ.1 15 5) - 1)) (va_cwS 3 hts gX9_order_X9_within rfl rfl rfl (by decide +kernel) ⟨Nat.le_of_ble_eq_true rfl, Nat.le_of_ble_eq_true rfl⟩) rfl hl.1 rfl (Nat.le_of_ble_eq_true rfl) ⟨Nat.zero_le _, Nat.zero_le _⟩ dX9_order_11) hw (fun H locs hw hb1 => ?_)
  refine lv_if_ne (tgt := 19) hx hb dX9_order_14 (by decide) (fun c2 => ?_) (fun c2 => ?_)
  · have h := if_f c2 h
    refine lv_aload_n hx hb dX9_order_19 rfl (lv_at hl 0 rfl) ?_
    refine r_gr S hE hw 5 15 iw9_X9_order rfl rfl (by decide) rfl (hts _ mf42_X9_order) dX9_order_20 ?_
    refine r_gr S hE hw 4 18 iw6_X9_order rfl rfl (by decide) rfl (hts _ mf188_X9_order) dX9_order_23 ?_
    refine lv_iload_n hx hb dX9_order_26 rfl (lv_at hl 1 rfl) ?_
    obtain ⟨v3, gv3, h⟩ := oB_out h
    refine r_al S hE hw rfl rfl gv3 dX9_order_27 ?_
    obtain rfl := Option.some.inj h
    exact r_iret S hr hlocks hw dX9_order_28
  · have h := if_t c2 h
    refine lv_iconst (v := (-1)) hx hb dX9_order_17 (by decide) ?_
    obtain rfl := Option.some.inj h
    exact r_iret S hr hlocks hw dX9_order_18


theorem mf25_X9_entry : Cond.fieldLink RX9 25 "GasVoyages" "flights" "[LGasVoyages$Flight;" ∈ wsX9_entry := by decide +kernel
set_option maxRecDepth 20000 in
theorem iw9_X9_entry : ∀ w ∈ u_ws RX9 TX9 8, w ∈ wsX9_entry := by decide +kernel
theorem mf131_X9_entry : Cond.fieldLink RX9 131 "GasVoyages$Flight" "entries" "I" ∈ wsX9_entry := by decide +kernel
set_option maxRecDepth 20000 in
theorem iw3_X9_entry : ∀ w ∈ u_ws RX3 TX3 7, w ∈ wsX9_entry := by decide +kernel
theorem mf191_X9_entry : Cond.fieldLink RX9 191 "GasVoyages$Flight" "lost" "[Z" ∈ wsX9_entry := by decide +kernel
theorem mf194_X9_entry : Cond.fieldLink RX9 194 "GasVoyages$Flight" "places" "[I" ∈ wsX9_entry := by decide +kernel
def f_X9_entry (σ : St) (p1 : Int32) (p2 : Int32) (p3 : Int32) : Option Int32 := if (f_X9_isFlight σ p1) = 0 then (some (-2)) else (if (f_X9_within p3 0 2) = 0 then (some (-2)) else (Option.bind (inB 8 p1) fun j5 => if (f_X9_within p2 0 ((σ.1 (40 + 4 * j5) 3) - 1)) = 0 then (some (-1)) else (Option.bind (aL σ ((40 + 4 * j5) + 3) 60 p2) fun v9 => if v9 = 0 then (Option.bind (aL σ ((40 + 4 * j5) + 2) 60 p2) fun v11 => if p3 = 2 then (some (f_X9_levelOfPlace v11)) else (if p3 = 0 then (some (f_X9_xOf (f_X9_cellOfPlace v11))) else (some (f_X9_yOf (f_X9_cellOfPlace v11))))) else (some (-1)))))
set_option maxRecDepth 100000 in
set_option maxHeartbeats 4000000 in
theorem c_X9_entry (l : Launch) (G : Gp) (A : Nat → Prop) (σ : St) (p1 : Int32) (p2 : Int32) (p3 : Int32) {r : Int32} (h : f_X9_entry σ p1 p2 p3 = some r) : Ki l yX9_entry wsX9_entry 2 G A [.ref (ad G 0), .int p1, .int p2, .int p3] σ r σ := by
  unfold f_X9_entry at h
  refine r_start (ws := wsX9_entry) (d := 2) (by decide) rfl [.ref (ad G 0), .int p1, .int p2, .int p3] (Nat.le_of_ble_eq_true rfl) ?_
  intro p e s m below meth c S hr hlocks hE hw ls hl
  have hl : lv_has ls 6 [(0, .ref (ad G 0)), (1, .int p1), (2, .int p2), (3, .int p3)] := hl
  obtain ⟨hx, hb, hml, hown, hts⟩ := id S
  refine lv_aload_n hx hb dX9_entry_0 rfl (lv_at hl 0 rfl) ?_
  refine lv_iload_n hx hb dX9_entry_1 rfl (lv_at hl 1 rfl) ?_
  refine r_cz (r_runV (k := 0) (ci := 9) (As := [.int p1]) (rest := []) S hE hw (c_X9_isFlight  l G A σ p1) (cwV 1 hts gX9_entry_X9_isFlight rfl rfl rfl (by decide +kernel) ⟨Nat.le_of_ble_eq_true rfl, Nat.le_of_ble_eq_true rfl⟩) rfl rfl (by decide) rfl hl.1 rfl (Nat.le_of_ble_eq_true rfl) ⟨Nat.zero_le _, Nat.zero_le _⟩ dX9_entry_2) hw (fun H locs hw hb1 => ?_)
  refine lv_if_eq (tgt := 17) hx hb dX9_entry_5 (by decide) (fun c2 => ?_) (fun c2 => ?_)
  · have h := if_t c2 h
    refine lv_bipush (v := (-2)) hx hb dX9_entry_17 (by decide) ?_
    obtain rfl := Option.some.inj h
    exact r_iret S hr hlocks hw dX9_entry_19
  · have h := if_f c2 h
    refine lv_iload_n hx hb dX9_entry_8 rfl (lv_at hl 3 rfl) ?_
    refine lv_iconst (v := 0) hx hb dX9_entry_9 (by decide) ?_
    refine lv_iconst (v := 2) hx hb dX9_entry_10 (by decide) ?_
    refine r_cz (r_runS (As := [.int p3, .int 0, .int 2]) (rest := []) S hE hw (c_X9_within  l G A σ p3 0 2) (va_cwS 3 hts gX9_entry_X9_within rfl rfl rfl (by decide +kernel) ⟨Nat.le_of_ble_eq_true rfl, Nat.le_of_ble_eq_true rfl⟩) rfl hl.1 rfl (Nat.le_of_ble_eq_true rfl) ⟨Nat.zero_le _, Nat.zero_le _⟩ dX9_entry_11) hw (fun H locs hw hb3 => ?_)
    refine lv_if_ne (tgt := 20) hx hb dX9_entry_14 (by decide) (fun c4 => ?_) (fun c4 => ?_)
    · have h := if_f c4 h
      refine lv_aload_n hx hb dX9_entry_20 rfl (lv_at hl 0 rfl) ?_
      refine r_gr S hE hw 2 13 iw9_X9_entry rfl rfl (by decide) rfl (hts _ mf25_X9_entry) dX9_entry_21 ?_
      refine lv_iload_n hx hb dX9_entry_24 rfl (lv_at hl 1 rfl) ?_
      obtain ⟨j5, gj5, h⟩ := oB_out h
      refine r_rf S hE hw ⟨rfl, rfl⟩ gj5 dX9_entry_25 ?_
      have hf6 := kd_fl (inB_in gj5).2.2
      refine lv_astore (lv' := [(4, .ref (ad G (40 + 4 * j5))), (0, .ref (ad G 0)), (1, .int p1), (2, .int p2), (3, .int p3)]) hx hb dX9_entry_26 hl (by decide) rfl (fun ls hl => ?_)
      refine lv_iload_n hx hb dX9_entry_28 rfl (lv_at hl 3 rfl) ?_
      refine lv_iconst (v := 0) hx hb dX9_entry_29 (by decide) ?_
      refine lv_aload hx hb dX9_entry_30 (lv_at hl 0 rfl) ?_
      refine r_gi S hE hw 3 iw3_X9_entry hf6 rfl (by decide) (hts _ mf131_X9_entry) dX9_entry_32 ?_
      refine lv_iconst (v := 1) hx hb dX9_entry_35 (by decide) ?_
      refine lv_isub hx hb dX9_entry_36 ?_
      refine r_cz (r_runS (As := [.int p2, .int 0, .int ((σ.1 (40 + 4 * j5) 3) - 1)]) (rest := []) S hE hw (c_X9_within  l G A σ p2 0 ((σ.1 (40 + 4 * j5) 3) - 1)) (va_cwS 3 hts gX9_entry_X9_within rfl rfl rfl (by decide +kernel) ⟨Nat.le_of_ble_eq_true rfl, Nat.le_of_ble_eq_true rfl⟩) rfl hl.1 rfl (Nat.le_of_ble_eq_true rfl) ⟨Nat.zero_le _, Nat.zero_le _⟩ dX9_entry_37) hw (fun H locs hw hb7 => ?_)
      refine lv_if_eq (tgt := 53) hx hb dX9_entry_40 (by decide) (fun c8 => ?_) (fun c8 => ?_)
      · have h := if_t c8 h
        refine lv_iconst (v := (-1)) hx hb dX9_entry_53 (by decide) ?_
        obtain rfl := Option.some.inj h
        exact r_iret S hr hlocks hw dX9_entry_54
      · have h := if_f c8 h
        refine lv_aload hx hb dX9_entry_43 (lv_at hl 0 rfl) ?_
        refine r_gr S hE hw 2 ((40 + 4 * j5) + 3) iw3_X9_entry hf6 rfl (by decide) rfl (hts _ mf191_X9_entry) dX9_entry_45 ?_
        refine lv_iload_n hx hb dX9_entry_48 rfl (lv_at hl 3 rfl) ?_
        obtain ⟨v9, gv9, h⟩ := oB_out h
        refine r_zl S hE hw (kf_l hf6) (kf_ll hf6) gv9 dX9_entry_49 ?_
        refine lv_if_eq (tgt := 55) hx hb dX9_entry_50 (by decide) (fun c10 => ?_) (fun c10 => ?_)
        · have h := if_t c10 h
          refine lv_aload hx hb dX9_entry_55 (lv_at hl 0 rfl) ?_
          refine r_gr S hE hw 1 ((40 + 4 * j5) + 2) iw3_X9_entry hf6 rfl (by decide) rfl (hts _ mf194_X9_entry) dX9_entry_57 ?_
          refine lv_iload_n hx hb dX9_entry_60 rfl (lv_at hl 3 rfl) ?_
          obtain ⟨v11, gv11, h⟩ := oB_out h
          refine r_al S hE hw (kf_p hf6) (kf_pl hf6) gv11 dX9_entry_61 ?_
          refine lv_istore (lv' := [(5, .int v11), (4, .ref (ad G (40 + 4 * j5))), (0, .ref (ad G 0)), (1, .int p1), (2, .int p2), (3, .int p3)]) hx hb dX9_entry_62 hl (by decide) rfl (fun ls hl => ?_)
          refine lv_iload_n hx hb dX9_entry_64 rfl (lv_at hl 5 rfl) ?_
          refine lv_iconst (v := 2) hx hb dX9_entry_65 (by decide) ?_
          refine lv_icmp_ne (tgt := 75) hx hb dX9_entry_66 (by decide) (fun c12 => ?_) (fun c12 => ?_)
          · have h := if_f c12 h
            refine lv_iload_n hx hb dX9_entry_75 rfl (lv_at hl 5 rfl) ?_
            refine lv_if_ne (tgt := 90) hx hb dX9_entry_76 (by decide) (fun c13 => ?_) (fun c13 => ?_)
            · have h := if_f c13 h
              refine lv_iload hx hb dX9_entry_90 (lv_at hl 0 rfl) ?_
              refine r_ci (r_runS (As := [.int v11]) (rest := []) S hE hw (c_X9_cellOfPlace  l G A σ v11) (va_cwS 1 hts gX9_entry_X9_cellOfPlace rfl rfl rfl (by decide +kernel) ⟨Nat.le_of_ble_eq_true rfl, Nat.le_of_ble_eq_true rfl⟩) rfl hl.1 rfl (Nat.le_of_ble_eq_true rfl) ⟨Nat.zero_le _, Nat.zero_le _⟩ dX9_entry_92) hw (fun H locs hw => ?_)
              refine r_ci (r_runS (As := [.int (f_X9_cellOfPlace v11)]) (rest := []) S hE hw (c_X9_yOf  l G A σ (f_X9_cellOfPlace v11)) (va_cwS 1 hts gX9_entry_X9_yOf rfl rfl rfl (by decide +kernel) ⟨Nat.le_of_ble_eq_true rfl, Nat.le_of_ble_eq_true rfl⟩) rfl hl.1 rfl (Nat.le_of_ble_eq_true rfl) ⟨Nat.zero_le _, Nat.zero_le _⟩ dX9_entry_95) hw (fun H locs hw => ?_)
              obtain rfl := Option.some.inj h
              exact r_iret S hr hlocks hw dX9_entry_98
            · have h := if_t c13 h
              refine lv_iload hx hb dX9_entry_79 (lv_at hl 0 rfl) ?_
              refine r_ci (r_runS (As := [.int v11]) (rest := []) S hE hw (c_X9_cellOfPlace  l G A σ v11) (va_cwS 1 hts gX9_entry_X9_cellOfPlace rfl rfl rfl (by decide +kernel) ⟨Nat.le_of_ble_eq_true rfl, Nat.le_of_ble_eq_true rfl⟩) rfl hl.1 rfl (Nat.le_of_ble_eq_true rfl) ⟨Nat.zero_le _, Nat.zero_le _⟩ dX9_entry_81) hw (fun H locs hw => ?_)
              refine r_ci (r_runS (As := [.int (f_X9_cellOfPlace v11)]) (rest := []) S hE hw (c_X9_xOf  l G A σ (f_X9_cellOfPlace v11)) (va_cwS 1 hts gX9_entry_X9_xOf rfl rfl rfl (by decide +kernel) ⟨Nat.le_of_ble_eq_true rfl, Nat.le_of_ble_eq_true rfl⟩) rfl hl.1 rfl (Nat.le_of_ble_eq_true rfl) ⟨Nat.zero_le _, Nat.zero_le _⟩ dX9_entry_84) hw (fun H locs hw => ?_)
              refine lv_goto (tgt := 98) hx hb dX9_entry_87 (by decide) ?_
              obtain rfl := Option.some.inj h
              exact r_iret S hr hlocks hw dX9_entry_98
          · have h := if_t c12 h
            refine lv_iload hx hb dX9_entry_69 (lv_at hl 0 rfl) ?_
            refine r_ci (r_runS (As := [.int v11]) (rest := []) S hE hw (c_X9_levelOfPlace  l G A σ v11) (va_cwS 1 hts gX9_entry_X9_levelOfPlace rfl rfl rfl (by decide +kernel) ⟨Nat.le_of_ble_eq_true rfl, Nat.le_of_ble_eq_true rfl⟩) rfl hl.1 rfl (Nat.le_of_ble_eq_true rfl) ⟨Nat.zero_le _, Nat.zero_le _⟩ dX9_entry_71) hw (fun H locs hw => ?_)
            obtain rfl := Option.some.inj h
            exact r_iret S hr hlocks hw dX9_entry_74
        · have h := if_f c10 h
          refine lv_iconst (v := (-1)) hx hb dX9_entry_53 (by decide) ?_
          obtain rfl := Option.some.inj h
          exact r_iret S hr hlocks hw dX9_entry_54
    · have h := if_t c4 h
      refine lv_bipush (v := (-2)) hx hb dX9_entry_17 (by decide) ?_
      obtain rfl := Option.some.inj h
      exact r_iret S hr hlocks hw dX9_entry_19


theorem mf25_X9_lose : Cond.fieldLink RX9 25 "GasVoyages" "flights" "[LGasVoyages$Flight;" ∈ wsX9_lose := by decide +kernel
set_option maxRecDepth 20000 in
theorem iw9_X9_lose : ∀ w ∈ u_ws RX9 TX9 8, w ∈ wsX9_lose := by decide +kernel
def f_X9_lose (σ : St) (p1 : Int32) (p2 : Int32) (p3 : Int32) : Option (Int32 × St) := if (f_X9_isFlight σ p1) = 0 then (some ((-2), σ)) else (if p2 < 1 then (some ((-2), σ)) else (if p2 ≤ p3 then (Option.bind (inB 8 p1) fun j5 => oB2 (f_X3_forget σ (40 + 4 * j5) p2 p3) fun v7 s8 => some (v7, s8)) else (some ((-2), σ))))
set_option maxRecDepth 100000 in
set_option maxHeartbeats 4000000 in
theorem c_X9_lose (l : Launch) (G : Gp) (A : Nat → Prop) (σ : St) (p1 : Int32) (p2 : Int32) (p3 : Int32) {r : Int32} {σ' : St} (h : f_X9_lose σ p1 p2 p3 = some (r, σ')) : Ki l yX9_lose wsX9_lose 2 G A [.ref (ad G 0), .int p1, .int p2, .int p3] σ r σ' := by
  unfold f_X9_lose at h
  refine r_start (ws := wsX9_lose) (d := 2) (by decide) rfl [.ref (ad G 0), .int p1, .int p2, .int p3] (Nat.le_of_ble_eq_true rfl) ?_
  intro p e s m below meth c S hr hlocks hE hw ls hl
  have hl : lv_has ls 4 [(0, .ref (ad G 0)), (1, .int p1), (2, .int p2), (3, .int p3)] := hl
  obtain ⟨hx, hb, hml, hown, hts⟩ := id S
  refine lv_aload_n hx hb dX9_lose_0 rfl (lv_at hl 0 rfl) ?_
  refine lv_iload_n hx hb dX9_lose_1 rfl (lv_at hl 1 rfl) ?_
  refine r_cz (r_runV (k := 0) (ci := 9) (As := [.int p1]) (rest := []) S hE hw (c_X9_isFlight  l G A σ p1) (cwV 1 hts gX9_lose_X9_isFlight rfl rfl rfl (by decide +kernel) ⟨Nat.le_of_ble_eq_true rfl, Nat.le_of_ble_eq_true rfl⟩) rfl rfl (by decide) rfl hl.1 rfl (Nat.le_of_ble_eq_true rfl) ⟨Nat.zero_le _, Nat.zero_le _⟩ dX9_lose_2) hw (fun H locs hw hb1 => ?_)
  refine lv_if_eq (tgt := 18) hx hb dX9_lose_5 (by decide) (fun c2 => ?_) (fun c2 => ?_)
  · have h := if_t c2 h
    refine lv_bipush (v := (-2)) hx hb dX9_lose_18 (by decide) ?_
    obtain ⟨rfl, rfl⟩ := rt2 h
    exact r_iret S hr hlocks hw dX9_lose_20
  · have h := if_f c2 h
    refine lv_iload_n hx hb dX9_lose_8 rfl (lv_at hl 2 rfl) ?_
    refine lv_iconst (v := 1) hx hb dX9_lose_9 (by decide) ?_
    refine lv_icmp_lt (tgt := 18) hx hb dX9_lose_10 (by decide) (fun c3 => ?_) (fun c3 => ?_)
    · have h := if_t c3 h
      refine lv_bipush (v := (-2)) hx hb dX9_lose_18 (by decide) ?_
      obtain ⟨rfl, rfl⟩ := rt2 h
      exact r_iret S hr hlocks hw dX9_lose_20
    · have h := if_f c3 h
      refine lv_iload_n hx hb dX9_lose_13 rfl (lv_at hl 3 rfl) ?_
      refine lv_iload_n hx hb dX9_lose_14 rfl (lv_at hl 2 rfl) ?_
      refine lv_icmp_ge (tgt := 21) hx hb dX9_lose_15 (by decide) (fun c4 => ?_) (fun c4 => ?_)
      · have h := if_t c4 h
        refine lv_aload_n hx hb dX9_lose_21 rfl (lv_at hl 0 rfl) ?_
        refine r_gr S hE hw 2 13 iw9_X9_lose rfl rfl (by decide) rfl (hts _ mf25_X9_lose) dX9_lose_22 ?_
        refine lv_iload_n hx hb dX9_lose_25 rfl (lv_at hl 1 rfl) ?_
        obtain ⟨j5, gj5, h⟩ := oB_out h
        refine r_rf S hE hw ⟨rfl, rfl⟩ gj5 dX9_lose_26 ?_
        have hf6 := kd_fl (inB_in gj5).2.2
        refine lv_iload_n hx hb dX9_lose_27 rfl (lv_at hl 2 rfl) ?_
        refine lv_iload_n hx hb dX9_lose_28 rfl (lv_at hl 3 rfl) ?_
        obtain ⟨v7, s8, gv7, h⟩ := oB2_out h
        refine r_ci (r_runV (k := 40 + 4 * j5) (ci := 3) (As := [.int p2, .int p3]) (rest := []) S hE hw (c_X3_forget  l G A σ (40 + 4 * j5) p2 p3 hf6 gv7) (cwV 2 hts gX9_lose_X3_forget rfl rfl rfl (by decide +kernel) ⟨Nat.le_of_ble_eq_true rfl, Nat.le_of_ble_eq_true rfl⟩) hf6 rfl (by decide) rfl hl.1 rfl (Nat.le_of_ble_eq_true rfl) ⟨Nat.zero_le _, Nat.zero_le _⟩ dX9_lose_29) hw (fun H locs hw => ?_)
        obtain ⟨rfl, rfl⟩ := rt2 h
        exact r_iret S hr hlocks hw dX9_lose_32
      · have h := if_f c4 h
        refine lv_bipush (v := (-2)) hx hb dX9_lose_18 (by decide) ?_
        obtain ⟨rfl, rfl⟩ := rt2 h
        exact r_iret S hr hlocks hw dX9_lose_20


theorem mf55_X9_judge : Cond.fieldLink RX9 55 "GasVoyages" "wayCounter" "LGasVoyages$WayCounter;" ∈ wsX9_judge := by decide +kernel
set_option maxRecDepth 20000 in
theorem iw9_X9_judge : ∀ w ∈ u_ws RX9 TX9 8, w ∈ wsX9_judge := by decide +kernel
theorem mf25_X9_judge : Cond.fieldLink RX9 25 "GasVoyages" "flights" "[LGasVoyages$Flight;" ∈ wsX9_judge := by decide +kernel
def f_X9_judge (σ : St) (p1 : Int32) : Option (Int32 × St) := if (f_X9_isFlight σ p1) = 0 then (some ((-2), σ)) else (Option.bind (inB 8 p1) fun j3 => Option.bind (f_X7_follow σ (40 + 4 * j3)) fun s5 => some (f_X7_verdict s5, s5))
set_option maxRecDepth 100000 in
set_option maxHeartbeats 4000000 in
theorem c_X9_judge (l : Launch) (G : Gp) (A : Nat → Prop) (σ : St) (p1 : Int32) {r : Int32} {σ' : St} (h : f_X9_judge σ p1 = some (r, σ')) : Ki l yX9_judge wsX9_judge 6 G A [.ref (ad G 0), .int p1] σ r σ' := by
  unfold f_X9_judge at h
  refine r_start (ws := wsX9_judge) (d := 6) (by decide) rfl [.ref (ad G 0), .int p1] (Nat.le_of_ble_eq_true rfl) ?_
  intro p e s m below meth c S hr hlocks hE hw ls hl
  have hl : lv_has ls 2 [(0, .ref (ad G 0)), (1, .int p1)] := hl
  obtain ⟨hx, hb, hml, hown, hts⟩ := id S
  refine lv_aload_n hx hb dX9_judge_0 rfl (lv_at hl 0 rfl) ?_
  refine lv_iload_n hx hb dX9_judge_1 rfl (lv_at hl 1 rfl) ?_
  refine r_cz (r_runV (k := 0) (ci := 9) (As := [.int p1]) (rest := []) S hE hw (c_X9_isFlight  l G A σ p1) (cwV 1 hts gX9_judge_X9_isFlight rfl rfl rfl (by decide +kernel) ⟨Nat.le_of_ble_eq_true rfl, Nat.le_of_ble_eq_true rfl⟩) rfl rfl (by decide) rfl hl.1 rfl (Nat.le_of_ble_eq_true rfl) ⟨Nat.zero_le _, Nat.zero_le _⟩ dX9_judge_2) hw (fun H locs hw hb1 => ?_)
  refine lv_if_ne (tgt := 11) hx hb dX9_judge_5 (by decide) (fun c2 => ?_) (fun c2 => ?_)
  · have h := if_f c2 h
    refine lv_aload_n hx hb dX9_judge_11 rfl (lv_at hl 0 rfl) ?_
    refine r_gr S hE hw 6 19 iw9_X9_judge rfl rfl (by decide) rfl (hts _ mf55_X9_judge) dX9_judge_12 ?_
    refine lv_aload_n hx hb dX9_judge_15 rfl (lv_at hl 0 rfl) ?_
    refine r_gr S hE hw 2 13 iw9_X9_judge rfl rfl (by decide) rfl (hts _ mf25_X9_judge) dX9_judge_16 ?_
    refine lv_iload_n hx hb dX9_judge_19 rfl (lv_at hl 1 rfl) ?_
    obtain ⟨j3, gj3, h⟩ := oB_out h
    refine r_rf S hE hw ⟨rfl, rfl⟩ gj3 dX9_judge_20 ?_
    have hf4 := kd_fl (inB_in gj3).2.2
    obtain ⟨s5, gs5, h⟩ := oB_out h
    refine r_cv (r_runV (k := 19) (ci := 7) (As := [.ref (ad G (40 + 4 * j3))]) (rest := []) S hE hw (c_X7_follow  l G A σ (40 + 4 * j3) hf4 gs5) (cwV 1 hts gX9_judge_X7_follow rfl rfl rfl (by decide +kernel) ⟨Nat.le_of_ble_eq_true rfl, Nat.le_of_ble_eq_true rfl⟩) rfl rfl (by decide) rfl hl.1 rfl (Nat.le_of_ble_eq_true rfl) ⟨Nat.zero_le _, Nat.zero_le _⟩ dX9_judge_21) hw (fun H locs hw => ?_)
    refine lv_aload_n hx hb dX9_judge_24 rfl (lv_at hl 0 rfl) ?_
    refine r_gr S hE hw 6 19 iw9_X9_judge rfl rfl (by decide) rfl (hts _ mf55_X9_judge) dX9_judge_25 ?_
    refine r_ci (r_runV (k := 19) (ci := 7) (As := []) (rest := []) S hE hw (c_X7_verdict  l G A s5 ) (cwV 0 hts gX9_judge_X7_verdict rfl rfl rfl (by decide +kernel) ⟨Nat.le_of_ble_eq_true rfl, Nat.le_of_ble_eq_true rfl⟩) rfl rfl (by decide) rfl hl.1 rfl (Nat.le_of_ble_eq_true rfl) ⟨Nat.zero_le _, Nat.zero_le _⟩ dX9_judge_28) hw (fun H locs hw => ?_)
    obtain ⟨rfl, rfl⟩ := rt2 h
    exact r_iret S hr hlocks hw dX9_judge_31
  · have h := if_t c2 h
    refine lv_bipush (v := (-2)) hx hb dX9_judge_8 (by decide) ?_
    obtain ⟨rfl, rfl⟩ := rt2 h
    exact r_iret S hr hlocks hw dX9_judge_10

