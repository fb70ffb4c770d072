theorem mc259_X9_digest : Cond.constantLong RX9 259 (163) ∈ wsX9_digest := by decide +kernel
theorem mc261_X9_digest : Cond.constantLong RX9 261 (31) ∈ wsX9_digest := by decide +kernel
theorem mf33_X9_digest : Cond.fieldLink RX9 33 "GasVoyages" "flightCount" "I" ∈ wsX9_digest := by decide +kernel
set_option maxRecDepth 20000 in
theorem iw9_X9_digest : ∀ w ∈ u_ws RX9 TX9 8, w ∈ wsX9_digest := by decide +kernel
theorem mf64_X9_digest : Cond.fieldLink RX9 64 "GasVoyages" "chasers" "LGasVoyages$Chasers;" ∈ wsX9_digest := by decide +kernel
theorem mf77_X9_digest : Cond.fieldLink RX9 77 "GasVoyages$Chasers" "number" "I" ∈ wsX9_digest := by decide +kernel
set_option maxRecDepth 20000 in
theorem iw2_X9_digest : ∀ w ∈ u_ws RX2 TX2 6, w ∈ wsX9_digest := by decide +kernel
theorem mf270_X9_digest : Cond.fieldLink RX9 270 "GasVoyages$Chasers" "cells" "[I" ∈ wsX9_digest := by decide +kernel
def f_X9_digest_56 : Nat → St → Int64 → Int32 → Option Int64
  | 0, _, _, _ => none
  | n + 1, σ, x1, x3 => if (σ.1 28 3) ≤ x3 then (some x1) else (Option.bind (aL σ 29 4 x3) fun v2 => Option.bind (aL σ 29 4 x3) fun v3 => f_X9_digest_56 n σ ((31 * ((31 * x1) + ((f_X9_xOf v2).toInt64))) + ((f_X9_yOf v3).toInt64)) (x3 + 1))
set_option maxRecDepth 100000 in
set_option maxHeartbeats 4000000 in
theorem w_X9_digest_56 {p : Program} {l : Launch} {e : Env} {s : State} {m : MethodId} {args : Array Value} {below : List Frame} {meth : Method} {c : Code} {G : Gp} {A : Nat → Prop} (S : CallFix p m c cX9_digest 4 s args wsX9_digest RX9) (hr : meth.sig.returnType = (some .long)) (hlocks : meth.locks = false) (hE : Ev G A s) (n : Nat) (σ : St) (x1 : Int64) (x3 : Int32) {r : Int64} (h : f_X9_digest_56   n σ x1 x3 = some r) {H : Heap} {locs : List Loc} {ls : Array Slot} (hw : Ww G A σ s H locs) (hl : lv_has ls 4 [(0, .ref (ad G 0)), (1, .long x1), (3, .int x3)]) : W p l e (rmd 4) s m args below meth c H locs 0 0 (Ql below args s G A r σ) (F0 m 56 ls []) := by
  obtain ⟨hx, hb, hml, hown, hts⟩ := id S
  induction n generalizing σ x1 x3 r  H locs ls with
  | zero => cases h
  | succ n ih =>
    unfold f_X9_digest_56 at h
    refine lv_iload_n hx hb dX9_digest_56 rfl (lv_at hl 2 rfl) ?_
    refine lv_aload_n hx hb dX9_digest_57 rfl (lv_at hl 0 rfl) ?_
    refine r_gr S hE hw 7 28 iw9_X9_digest rfl rfl (by decide) rfl (hts _ mf64_X9_digest) dX9_digest_58 ?_
    refine r_gi S hE hw 3 iw2_X9_digest rfl rfl (by decide) (hts _ mf77_X9_digest) dX9_digest_61 ?_
    refine lv_icmp_ge (tgt := 113) hx hb dX9_digest_64 (by decide) (fun c1 => ?_) (fun c1 => ?_)
    · have h := if_t c1 h
      refine lv_lload_n hx hb dX9_digest_113 rfl (lv_at hl 1 rfl) ?_
      obtain rfl := Option.some.inj h
      exact r_lret S hr hlocks hw dX9_digest_114
    · have h := if_f c1 h
      refine lv_ldc2 (v := 31) hx hb hown (hts _ mc261_X9_digest) dX9_digest_67 ?_
      refine lv_lload_n hx hb dX9_digest_70 rfl (lv_at hl 1 rfl) ?_
      refine lv_lmul hx hb dX9_digest_71 ?_
      refine lv_aload_n hx hb dX9_digest_72 rfl (lv_at hl 0 rfl) ?_
      refine r_gr S hE hw 7 28 iw9_X9_digest rfl rfl (by decide) rfl (hts _ mf64_X9_digest) dX9_digest_73 ?_
      refine r_gr S hE hw 1 29 iw2_X9_digest rfl rfl (by decide) rfl (hts _ mf270_X9_digest) dX9_digest_76 ?_
      refine lv_iload_n hx hb dX9_digest_79 rfl (lv_at hl 2 rfl) ?_
      obtain ⟨v2, gv2, h⟩ := oB_out h
      refine r_al S hE hw rfl rfl gv2 dX9_digest_80 ?_
      refine r_ci (r_runS (As := [.int v2]) (rest := [.long (31 * x1)]) S hE hw (c_X9_xOf  l G A σ v2) (va_cwS 1 hts gX9_digest_X9_xOf rfl rfl rfl (by decide +kernel) ⟨Nat.le_of_ble_eq_true rfl, Nat.le_of_ble_eq_true rfl⟩) rfl hl.1 rfl (Nat.le_of_ble_eq_true rfl) ⟨Nat.zero_le _, Nat.zero_le _⟩ dX9_digest_81) hw (fun H locs hw => ?_)
      refine lv_i2l (v := (f_X9_xOf v2).toInt64) hx hb dX9_digest_84 rfl ?_
      refine lv_ladd hx hb dX9_digest_85 ?_
      refine lv_lstore_n (lv' := [(1, .long ((31 * x1) + ((f_X9_xOf v2).toInt64))), (0, .ref (ad G 0)), (3, .int x3)]) hx hb dX9_digest_86 rfl hl (by decide) rfl (fun ls hl => ?_)
      refine lv_ldc2 (v := 31) hx hb hown (hts _ mc261_X9_digest) dX9_digest_87 ?_
      refine lv_lload_n hx hb dX9_digest_90 rfl (lv_at hl 0 rfl) ?_
      refine lv_lmul hx hb dX9_digest_91 ?_
      refine lv_aload_n hx hb dX9_digest_92 rfl (lv_at hl 1 rfl) ?_
      refine r_gr S hE hw 7 28 iw9_X9_digest rfl rfl (by decide) rfl (hts _ mf64_X9_digest) dX9_digest_93 ?_
      refine r_gr S hE hw 1 29 iw2_X9_digest rfl rfl (by decide) rfl (hts _ mf270_X9_digest) dX9_digest_96 ?_
      refine lv_iload_n hx hb dX9_digest_99 rfl (lv_at hl 2 rfl) ?_
      obtain ⟨v3, gv3, h⟩ := oB_out h
      refine r_al S hE hw rfl rfl gv3 dX9_digest_100 ?_
      refine r_ci (r_runS (As := [.int v3]) (rest := [.long (31 * ((31 * x1) + ((f_X9_xOf v2).toInt64)))]) S hE hw (c_X9_yOf  l G A σ v3) (va_cwS 1 hts gX9_digest_X9_yOf rfl rfl rfl (by decide +kernel) ⟨Nat.le_of_ble_eq_true rfl, Nat.le_of_ble_eq_true rfl⟩) rfl hl.1 rfl (Nat.le_of_ble_eq_true rfl) ⟨Nat.zero_le _, Nat.zero_le _⟩ dX9_digest_101) hw (fun H locs hw => ?_)
      refine lv_i2l (v := (f_X9_yOf v3).toInt64) hx hb dX9_digest_104 rfl ?_
      refine lv_ladd hx hb dX9_digest_105 ?_
      refine lv_lstore_n (lv' := [(1, .long ((31 * ((31 * x1) + ((f_X9_xOf v2).toInt64))) + ((f_X9_yOf v3).toInt64))), (0, .ref (ad G 0)), (3, .int x3)]) hx hb dX9_digest_106 rfl hl (by decide) rfl (fun ls hl => ?_)
      refine lv_iinc (v := x3 + 1) (lv' := [(3, .int (x3 + 1)), (1, .long ((31 * ((31 * x1) + ((f_X9_xOf v2).toInt64))) + ((f_X9_yOf v3).toInt64))), (0, .ref (ad G 0))]) hx hb dX9_digest_107 hl (k := 2) rfl rfl (by decide) rfl (fun ls hl => ?_)
      refine lv_goto (tgt := 56) hx hb dX9_digest_110 (by decide) ?_
      exact ih σ ((31 * ((31 * x1) + ((f_X9_xOf v2).toInt64))) + ((f_X9_yOf v3).toInt64)) (x3 + 1) h hw (lv_sub hl [2, 1, 0] rfl)

def f_X9_digest_33 : Nat → St → Int64 → Int32 → Option Int64
  | 0, _, _, _ => none
  | n + 1, σ, x1, x3 => if (σ.1 0 4) ≤ x3 then (f_X9_digest_56 10000 σ x1 0) else (Option.bind (f_X9_digestFlight σ x1 x3) fun v2 => f_X9_digest_33 n σ v2 (x3 + 1))
set_option maxRecDepth 100000 in
set_option maxHeartbeats 4000000 in
theorem w_X9_digest_33 {p : Program} {l : Launch} {e : Env} {s : State} {m : MethodId} {args : Array Value} {below : List Frame} {meth : Method} {c : Code} {G : Gp} {A : Nat → Prop} (S : CallFix p m c cX9_digest 4 s args wsX9_digest RX9) (hr : meth.sig.returnType = (some .long)) (hlocks : meth.locks = false) (hE : Ev G A s) (n : Nat) (σ : St) (x1 : Int64) (x3 : Int32) {r : Int64} (h : f_X9_digest_33   n σ x1 x3 = some r) {H : Heap} {locs : List Loc} {ls : Array Slot} (hw : Ww G A σ s H locs) (hl : lv_has ls 4 [(0, .ref (ad G 0)), (1, .long x1), (3, .int x3)]) : W p l e (rmd 4) s m args below meth c H locs 0 0 (Ql below args s G A r σ) (F0 m 33 ls []) := by
  obtain ⟨hx, hb, hml, hown, hts⟩ := id S
  induction n generalizing σ x1 x3 r  H locs ls with
  | zero => cases h
  | succ n ih =>
    unfold f_X9_digest_33 at h
    refine lv_iload_n hx hb dX9_digest_33 rfl (lv_at hl 2 rfl) ?_
    refine lv_aload_n hx hb dX9_digest_34 rfl (lv_at hl 0 rfl) ?_
    refine r_gi S hE hw 4 iw9_X9_digest rfl rfl (by decide) (hts _ mf33_X9_digest) dX9_digest_35 ?_
    refine lv_icmp_ge (tgt := 54) hx hb dX9_digest_38 (by decide) (fun c1 => ?_) (fun c1 => ?_)
    · have h := if_t c1 h
      refine lv_iconst (v := 0) hx hb dX9_digest_54 (by decide) ?_
      refine lv_istore_n (lv' := [(3, .int 0), (0, .ref (ad G 0)), (1, .long x1)]) hx hb dX9_digest_55 rfl hl (by decide) rfl (fun ls hl => ?_)
      exact w_X9_digest_56   S hr hlocks hE  10000 σ x1 0 h hw (lv_sub hl [1, 2, 0] rfl)
    · have h := if_f c1 h
      refine lv_aload_n hx hb dX9_digest_41 rfl (lv_at hl 0 rfl) ?_
      refine lv_lload_n hx hb dX9_digest_42 rfl (lv_at hl 1 rfl) ?_
      refine lv_iload_n hx hb dX9_digest_43 rfl (lv_at hl 2 rfl) ?_
      obtain ⟨v2, gv2, h⟩ := oB_out h
      refine r_cl (r_runV (k := 0) (ci := 9) (As := [.long x1, .int x3]) (rest := []) S hE hw (c_X9_digestFlight  l G A σ x1 x3 gv2) (cwV 2 hts gX9_digest_X9_digestFlight rfl rfl rfl (by decide +kernel) ⟨Nat.le_of_ble_eq_true rfl, Nat.le_of_ble_eq_true rfl⟩) rfl rfl (by decide) rfl hl.1 rfl (Nat.le_of_ble_eq_true rfl) ⟨Nat.zero_le _, Nat.zero_le _⟩ dX9_digest_44) hw (fun H locs hw => ?_)
      refine lv_lstore_n (lv' := [(1, .long v2), (0, .ref (ad G 0)), (3, .int x3)]) hx hb dX9_digest_47 rfl hl (by decide) rfl (fun ls hl => ?_)
      refine lv_iinc (v := x3 + 1) (lv' := [(3, .int (x3 + 1)), (1, .long v2), (0, .ref (ad G 0))]) hx hb dX9_digest_48 hl (k := 2) rfl rfl (by decide) rfl (fun ls hl => ?_)
      refine lv_goto (tgt := 33) hx hb dX9_digest_51 (by decide) ?_
      exact ih σ v2 (x3 + 1) h hw (lv_sub hl [2, 1, 0] rfl)

def f_X9_digest_6 : Nat → St → Int64 → Int32 → Option Int64
  | 0, _, _, _ => none
  | n + 1, σ, x1, x3 => if 6 < x3 then (f_X9_digest_33 10000 σ x1 0) else (Option.bind (f_X9_count σ x3) fun v2 => f_X9_digest_6 n σ ((31 * x1) + v2.toInt64) (x3 + 1))
set_option maxRecDepth 100000 in
set_option maxHeartbeats 4000000 in
theorem w_X9_digest_6 {p : Program} {l : Launch} {e : Env} {s : State} {m : MethodId} {args : Array Value} {below : List Frame} {meth : Method} {c : Code} {G : Gp} {A : Nat → Prop} (S : CallFix p m c cX9_digest 4 s args wsX9_digest RX9) (hr : meth.sig.returnType = (some .long)) (hlocks : meth.locks = false) (hE : Ev G A s) (n : Nat) (σ : St) (x1 : Int64) (x3 : Int32) {r : Int64} (h : f_X9_digest_6   n σ x1 x3 = some r) {H : Heap} {locs : List Loc} {ls : Array Slot} (hw : Ww G A σ s H locs) (hl : lv_has ls 4 [(0, .ref (ad G 0)), (1, .long x1), (3, .int x3)]) : W p l e (rmd 4) s m args below meth c H locs 0 0 (Ql below args s G A r σ) (F0 m 6 ls []) := by
  obtain ⟨hx, hb, hml, hown, hts⟩ := id S
  induction n generalizing σ x1 x3 r  H locs ls with
  | zero => cases h
  | succ n ih =>
    unfold f_X9_digest_6 at h
    refine lv_iload_n hx hb dX9_digest_6 rfl (lv_at hl 2 rfl) ?_
    refine lv_bipush (v := 6) hx hb dX9_digest_7 (by decide) ?_
    refine lv_icmp_gt (tgt := 31) hx hb dX9_digest_9 (by decide) (fun c1 => ?_) (fun c1 => ?_)
    · have h := if_t c1 h
      refine lv_iconst (v := 0) hx hb dX9_digest_31 (by decide) ?_
      refine lv_istore_n (lv' := [(3, .int 0), (0, .ref (ad G 0)), (1, .long x1)]) hx hb dX9_digest_32 rfl hl (by decide) rfl (fun ls hl => ?_)
      exact w_X9_digest_33   S hr hlocks hE  10000 σ x1 0 h hw (lv_sub hl [1, 2, 0] rfl)
    · have h := if_f c1 h
      refine lv_ldc2 (v := 31) hx hb hown (hts _ mc261_X9_digest) dX9_digest_12 ?_
      refine lv_lload_n hx hb dX9_digest_15 rfl (lv_at hl 1 rfl) ?_
      refine lv_lmul hx hb dX9_digest_16 ?_
      refine lv_aload_n hx hb dX9_digest_17 rfl (lv_at hl 0 rfl) ?_
      refine lv_iload_n hx hb dX9_digest_18 rfl (lv_at hl 2 rfl) ?_
      obtain ⟨v2, gv2, h⟩ := oB_out h
      refine r_ci (r_runV (k := 0) (ci := 9) (As := [.int x3]) (rest := [.long (31 * x1)]) S hE hw (c_X9_count  l G A σ x3 gv2) (cwV 1 hts gX9_digest_X9_count rfl rfl rfl (by decide +kernel) ⟨Nat.le_of_ble_eq_true rfl, Nat.le_of_ble_eq_true rfl⟩) rfl rfl (by decide) rfl hl.1 rfl (Nat.le_of_ble_eq_true rfl) ⟨Nat.zero_le _, Nat.zero_le _⟩ dX9_digest_19) hw (fun H locs hw => ?_)
      refine lv_i2l (v := v2.toInt64) hx hb dX9_digest_22 rfl ?_
      refine lv_ladd hx hb dX9_digest_23 ?_
      refine lv_lstore_n (lv' := [(1, .long ((31 * x1) + v2.toInt64)), (0, .ref (ad G 0)), (3, .int x3)]) hx hb dX9_digest_24 rfl hl (by decide) rfl (fun ls hl => ?_)
      refine lv_iinc (v := x3 + 1) (lv' := [(3, .int (x3 + 1)), (1, .long ((31 * x1) + v2.toInt64)), (0, .ref (ad G 0))]) hx hb dX9_digest_25 hl (k := 2) rfl rfl (by decide) rfl (fun ls hl => ?_)
      refine lv_goto (tgt := 6) hx hb dX9_digest_28 (by decide) ?_
      exact ih σ ((31 * x1) + v2.toInt64) (x3 + 1) h hw (lv_sub hl [2, 1, 0] rfl)

def f_X9_digest (σ : St) : Option Int64 := f_X9_digest_6 10000 σ 163 0
set_option maxRecDepth 100000 in
set_option maxHeartbeats 4000000 in
theorem c_X9_digest (l : Launch) (G : Gp) (A : Nat → Prop) (σ : St) {r : Int64} (h : f_X9_digest σ  = some r) : Kl l yX9_digest wsX9_digest 4 G A [.ref (ad G 0)] σ r σ := by
  unfold f_X9_digest at h
  refine r_start (ws := wsX9_digest) (d := 4) (by decide) rfl [.ref (ad G 0)] (Nat.le_of_ble_eq_true rfl) ?_
  intro p e s m below meth c S hr hlocks hE hw ls hl
  have hl : lv_has ls 4 [(0, .ref (ad G 0))] := hl
  obtain ⟨hx, hb, hml, hown, hts⟩ := id S
  refine lv_ldc2 (v := 163) hx hb hown (hts _ mc259_X9_digest) dX9_digest_0 ?_
  refine lv_lstore_n (lv' := [(1, .long 163), (0, .ref (ad G 0))]) hx hb dX9_digest_3 rfl hl (by decide) rfl (fun ls hl => ?_)
  refine lv_iconst (v := 0) hx hb dX9_digest_4 (by decide) ?_
  refine lv_istore_n (lv' := [(3, .int 0), (1, .long 163), (0, .ref (ad G 0))]) hx hb dX9_digest_5 rfl hl (by decide) rfl (fun ls hl => ?_)
  exact w_X9_digest_6   S hr hlocks hE  10000 σ 163 0 h hw (lv_sub hl [2, 1, 0] rfl)

