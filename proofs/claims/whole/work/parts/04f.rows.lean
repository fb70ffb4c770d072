theorem mc212_X10_digest : Cond.constantLong RX10 212 (163) ∈ wsX10_digest := by decide +kernel
theorem mc214_X10_digest : Cond.constantLong RX10 214 (31) ∈ wsX10_digest := by decide +kernel
theorem mf112_X10_digest : Cond.fieldLink RX10 112 "GasVoyagesModel" "flights" "I" ∈ wsX10_digest := by decide +kernel
set_option maxRecDepth 20000 in
theorem iw10_X10_digest : ∀ w ∈ u_ws RX10 TX10 43, w ∈ wsX10_digest := by decide +kernel
theorem mf115_X10_digest : Cond.fieldLink RX10 115 "GasVoyagesModel" "chasers" "I" ∈ wsX10_digest := by decide +kernel
theorem mf78_X10_digest : Cond.fieldLink RX10 78 "GasVoyagesModel" "cx" "[I" ∈ wsX10_digest := by decide +kernel
theorem mf81_X10_digest : Cond.fieldLink RX10 81 "GasVoyagesModel" "cy" "[I" ∈ wsX10_digest := by decide +kernel
theorem mf66_X10_digest : Cond.fieldLink RX10 66 "GasVoyagesModel" "entries" "[I" ∈ wsX10_digest := by decide +kernel
def f_X10_digest_89 (kn33 : St → Int64 → Int32 → Option Int64) (kn75 : St → Int64 → Int32 → Int32 → Option Int64) : Nat → St → Int64 → Int32 → Int32 → Int32 → Option Int64
  | 0, _, _, _, _, _ => none
  | n + 1, σ, x1, x3, x4, x5 => if 3 ≤ x5 then (kn75 σ x1 x3 (x4 + 1)) else (Option.bind (f_X10_entry σ x3 x4 x5) fun v2 => f_X10_digest_89 kn33 kn75 n σ ((31 * x1) + v2.toInt64) x3 x4 (x5 + 1))
set_option maxRecDepth 100000 in
set_option maxHeartbeats 4000000 in
theorem w_X10_digest_89 {p : Program} {l : Launch} {e : Env} {s : State} {m : MethodId} {args : Array Value} {below : List Frame} {meth : Method} {c : Code} {G : Gp} {A : Nat → Prop} (S : CallFix p m c cX10_digest 6 s args wsX10_digest RX10) (hr : meth.sig.returnType = (some .long)) (hlocks : meth.locks = false) (hE : Ev G A s) {kn33 : St → Int64 → Int32 → Option Int64} {kn75 : St → Int64 → Int32 → Int32 → Option Int64} (hkn33 : ∀ (σ : St) (x1 : Int64) (x3 : Int32) (r : Int64) (_ : Unit), kn33 σ x1 x3 = some r → ∀ (H : Heap) (locs : List Loc) (ls : Array Slot), Ww G A σ s H locs → lv_has ls 6 [(0, .ref (ad G 72)), (1, .long x1), (3, .int x3)] → W p l e (rmd 3) s m args below meth c H locs 0 0 (Ql below args s G A r σ) (F0 m 33 ls [])) (hkn75 : ∀ (σ : St) (x1 : Int64) (x3 : Int32) (x4 : Int32) (r : Int64) (_ : Unit), kn75 σ x1 x3 x4 = some r → ∀ (H : Heap) (locs : List Loc) (ls : Array Slot), Ww G A σ s H locs → lv_has ls 6 [(0, .ref (ad G 72)), (1, .long x1), (3, .int x3), (4, .int x4)] → W p l e (rmd 3) s m args below meth c H locs 0 0 (Ql below args s G A r σ) (F0 m 75 ls [])) (n : Nat) (σ : St) (x1 : Int64) (x3 : Int32) (x4 : Int32) (x5 : Int32) {r : Int64} (h : f_X10_digest_89  kn33 kn75 n σ x1 x3 x4 x5 = some r) {H : Heap} {locs : List Loc} {ls : Array Slot} (hw : Ww G A σ s H locs) (hl : lv_has ls 6 [(0, .ref (ad G 72)), (1, .long x1), (3, .int x3), (4, .int x4), (5, .int x5)]) : W p l e (rmd 3) s m args below meth c H locs 0 0 (Ql below args s G A r σ) (F0 m 89 ls []) := by
  obtain ⟨hx, hb, hml, hown, hts⟩ := id S
  induction n generalizing σ x1 x3 x4 x5 r  H locs ls with
  | zero => cases h
  | succ n ih =>
    unfold f_X10_digest_89 at h
    refine lv_iload hx hb dX10_digest_89 (lv_at hl 4 rfl) ?_
    refine lv_iconst (v := 3) hx hb dX10_digest_91 (by decide) ?_
    refine lv_icmp_ge (tgt := 118) hx hb dX10_digest_92 (by decide) (fun c1 => ?_) (fun c1 => ?_)
    · have h := if_t c1 h
      refine lv_iinc (v := x4 + 1) (lv' := [(4, .int (x4 + 1)), (0, .ref (ad G 72)), (1, .long x1), (3, .int x3), (5, .int x5)]) hx hb dX10_digest_118 hl (k := 3) rfl rfl (by decide) rfl (fun ls hl => ?_)
      refine lv_goto (tgt := 75) hx hb dX10_digest_121 (by decide) ?_
      exact hkn75 σ x1 x3 (x4 + 1) _ () h _ _ _ hw (lv_sub hl [1, 2, 3, 0] rfl)
    · have h := if_f c1 h
      refine lv_ldc2 (v := 31) hx hb hown (hts _ mc214_X10_digest) dX10_digest_95 ?_
      refine lv_lload_n hx hb dX10_digest_98 rfl (lv_at hl 1 rfl) ?_
      refine lv_lmul hx hb dX10_digest_99 ?_
      refine lv_aload_n hx hb dX10_digest_100 rfl (lv_at hl 0 rfl) ?_
      refine lv_iload_n hx hb dX10_digest_101 rfl (lv_at hl 2 rfl) ?_
      refine lv_iload hx hb dX10_digest_102 (lv_at hl 3 rfl) ?_
      refine lv_iload hx hb dX10_digest_104 (lv_at hl 4 rfl) ?_
      obtain ⟨v2, gv2, h⟩ := oB_out h
      refine r_ci (r_runV (k := 72) (ci := 10) (As := [.int x3, .int x4, .int x5]) (rest := [.long (31 * x1)]) S hE hw (c_X10_entry  l G A σ x3 x4 x5 gv2) (cwV 3 hts gX10_digest_X10_entry rfl rfl rfl (by decide +kernel) ⟨Nat.le_of_ble_eq_true rfl, Nat.le_of_ble_eq_true rfl⟩) rfl rfl (by decide) rfl hl.1 rfl (Nat.le_of_ble_eq_true rfl) ⟨Nat.zero_le _, Nat.zero_le _⟩ dX10_digest_106) hw (fun H locs hw => ?_)
      refine lv_i2l (v := v2.toInt64) hx hb dX10_digest_109 rfl ?_
      refine lv_ladd hx hb dX10_digest_110 ?_
      refine lv_lstore_n (lv' := [(1, .long ((31 * x1) + v2.toInt64)), (0, .ref (ad G 72)), (3, .int x3), (4, .int x4), (5, .int x5)]) hx hb dX10_digest_111 rfl hl (by decide) rfl (fun ls hl => ?_)
      refine lv_iinc (v := x5 + 1) (lv' := [(5, .int (x5 + 1)), (1, .long ((31 * x1) + v2.toInt64)), (0, .ref (ad G 72)), (3, .int x3), (4, .int x4)]) hx hb dX10_digest_112 hl (k := 4) rfl rfl (by decide) rfl (fun ls hl => ?_)
      refine lv_goto (tgt := 89) hx hb dX10_digest_115 (by decide) ?_
      exact ih σ ((31 * x1) + v2.toInt64) x3 x4 (x5 + 1) h hw (lv_sub hl [2, 1, 3, 4, 0] rfl)

def f_X10_digest_75 (kn33 : St → Int64 → Int32 → Option Int64) : Nat → St → Int64 → Int32 → Int32 → Option Int64
  | 0, _, _, _, _ => none
  | n + 1, σ, x1, x3, x4 => Option.bind (aL σ 89 8 x3) fun v1 => if v1 ≤ x4 then (kn33 σ x1 (x3 + 1)) else (f_X10_digest_89 kn33 (fun σ x1 x3 x4 => f_X10_digest_75 kn33 n σ x1 x3 x4) 10000 σ x1 x3 x4 0)
set_option maxRecDepth 100000 in
set_option maxHeartbeats 4000000 in
theorem w_X10_digest_75 {p : Program} {l : Launch} {e : Env} {s : State} {m : MethodId} {args : Array Value} {below : List Frame} {meth : Method} {c : Code} {G : Gp} {A : Nat → Prop} (S : CallFix p m c cX10_digest 6 s args wsX10_digest RX10) (hr : meth.sig.returnType = (some .long)) (hlocks : meth.locks = false) (hE : Ev G A s) {kn33 : St → Int64 → Int32 → Option Int64} (hkn33 : ∀ (σ : St) (x1 : Int64) (x3 : Int32) (r : Int64) (_ : Unit), kn33 σ x1 x3 = some r → ∀ (H : Heap) (locs : List Loc) (ls : Array Slot), Ww G A σ s H locs → lv_has ls 6 [(0, .ref (ad G 72)), (1, .long x1), (3, .int x3)] → W p l e (rmd 3) s m args below meth c H locs 0 0 (Ql below args s G A r σ) (F0 m 33 ls [])) (n : Nat) (σ : St) (x1 : Int64) (x3 : Int32) (x4 : Int32) {r : Int64} (h : f_X10_digest_75  kn33 n σ x1 x3 x4 = some r) {H : Heap} {locs : List Loc} {ls : Array Slot} (hw : Ww G A σ s H locs) (hl : lv_has ls 6 [(0, .ref (ad G 72)), (1, .long x1), (3, .int x3), (4, .int x4)]) : W p l e (rmd 3) s m args below meth c H locs 0 0 (Ql below args s G A r σ) (F0 m 75 ls []) := by
  obtain ⟨hx, hb, hml, hown, hts⟩ := id S
  induction n generalizing σ x1 x3 x4 r  H locs ls with
  | zero => cases h
  | succ n ih =>
    unfold f_X10_digest_75 at h
    refine lv_iload hx hb dX10_digest_75 (lv_at hl 3 rfl) ?_
    refine lv_aload_n hx hb dX10_digest_77 rfl (lv_at hl 0 rfl) ?_
    refine r_gr S hE hw 19 89 iw10_X10_digest rfl rfl (by decide) rfl (hts _ mf66_X10_digest) dX10_digest_78 ?_
    refine lv_iload_n hx hb dX10_digest_81 rfl (lv_at hl 2 rfl) ?_
    obtain ⟨v1, gv1, h⟩ := oB_out h
    refine r_al S hE hw rfl rfl gv1 dX10_digest_82 ?_
    refine lv_icmp_ge (tgt := 124) hx hb dX10_digest_83 (by decide) (fun c2 => ?_) (fun c2 => ?_)
    · have h := if_t c2 h
      refine lv_iinc (v := x3 + 1) (lv' := [(3, .int (x3 + 1)), (0, .ref (ad G 72)), (1, .long x1), (4, .int x4)]) hx hb dX10_digest_124 hl (k := 2) rfl rfl (by decide) rfl (fun ls hl => ?_)
      refine lv_goto (tgt := 33) hx hb dX10_digest_127 (by decide) ?_
      exact hkn33 σ x1 (x3 + 1) _ () h _ _ _ hw (lv_sub hl [1, 2, 0] rfl)
    · have h := if_f c2 h
      refine lv_iconst (v := 0) hx hb dX10_digest_86 (by decide) ?_
      refine lv_istore (lv' := [(5, .int 0), (0, .ref (ad G 72)), (1, .long x1), (3, .int x3), (4, .int x4)]) hx hb dX10_digest_87 hl (by decide) rfl (fun ls hl => ?_)
      exact w_X10_digest_89   S hr hlocks hE hkn33 (fun σ x1 x3 x4  _ _ h _ _ _ hw hl => ih σ x1 x3 x4  h hw hl) 10000 σ x1 x3 x4 0 h hw (lv_sub hl [1, 2, 3, 4, 0] rfl)

def f_X10_digest_44 (kn33 : St → Int64 → Int32 → Option Int64) : Nat → St → Int64 → Int32 → Int32 → Option Int64
  | 0, _, _, _, _ => none
  | n + 1, σ, x1, x3, x4 => if 10 ≤ x4 then (f_X10_digest_75 kn33 10000 σ x1 x3 0) else (Option.bind (f_X10_about σ x3 x4) fun v2 => f_X10_digest_44 kn33 n σ ((31 * x1) + v2.toInt64) x3 (x4 + 1))
set_option maxRecDepth 100000 in
set_option maxHeartbeats 4000000 in
theorem w_X10_digest_44 {p : Program} {l : Launch} {e : Env} {s : State} {m : MethodId} {args : Array Value} {below : List Frame} {meth : Method} {c : Code} {G : Gp} {A : Nat → Prop} (S : CallFix p m c cX10_digest 6 s args wsX10_digest RX10) (hr : meth.sig.returnType = (some .long)) (hlocks : meth.locks = false) (hE : Ev G A s) {kn33 : St → Int64 → Int32 → Option Int64} (hkn33 : ∀ (σ : St) (x1 : Int64) (x3 : Int32) (r : Int64) (_ : Unit), kn33 σ x1 x3 = some r → ∀ (H : Heap) (locs : List Loc) (ls : Array Slot), Ww G A σ s H locs → lv_has ls 6 [(0, .ref (ad G 72)), (1, .long x1), (3, .int x3)] → W p l e (rmd 3) s m args below meth c H locs 0 0 (Ql below args s G A r σ) (F0 m 33 ls [])) (n : Nat) (σ : St) (x1 : Int64) (x3 : Int32) (x4 : Int32) {r : Int64} (h : f_X10_digest_44  kn33 n σ x1 x3 x4 = some r) {H : Heap} {locs : List Loc} {ls : Array Slot} (hw : Ww G A σ s H locs) (hl : lv_has ls 6 [(0, .ref (ad G 72)), (1, .long x1), (3, .int x3), (4, .int x4)]) : W p l e (rmd 3) s m args below meth c H locs 0 0 (Ql below args s G A r σ) (F0 m 44 ls []) := by
  obtain ⟨hx, hb, hml, hown, hts⟩ := id S
  induction n generalizing σ x1 x3 x4 r  H locs ls with
  | zero => cases h
  | succ n ih =>
    unfold f_X10_digest_44 at h
    refine lv_iload hx hb dX10_digest_44 (lv_at hl 3 rfl) ?_
    refine lv_bipush (v := 10) hx hb dX10_digest_46 (by decide) ?_
    refine lv_icmp_ge (tgt := 72) hx hb dX10_digest_48 (by decide) (fun c1 => ?_) (fun c1 => ?_)
    · have h := if_t c1 h
      refine lv_iconst (v := 0) hx hb dX10_digest_72 (by decide) ?_
      refine lv_istore (lv' := [(4, .int 0), (0, .ref (ad G 72)), (1, .long x1), (3, .int x3)]) hx hb dX10_digest_73 hl (by decide) rfl (fun ls hl => ?_)
      exact w_X10_digest_75   S hr hlocks hE hkn33 10000 σ x1 x3 0 h hw (lv_sub hl [1, 2, 3, 0] rfl)
    · have h := if_f c1 h
      refine lv_ldc2 (v := 31) hx hb hown (hts _ mc214_X10_digest) dX10_digest_51 ?_
      refine lv_lload_n hx hb dX10_digest_54 rfl (lv_at hl 1 rfl) ?_
      refine lv_lmul hx hb dX10_digest_55 ?_
      refine lv_aload_n hx hb dX10_digest_56 rfl (lv_at hl 0 rfl) ?_
      refine lv_iload_n hx hb dX10_digest_57 rfl (lv_at hl 2 rfl) ?_
      refine lv_iload hx hb dX10_digest_58 (lv_at hl 3 rfl) ?_
      obtain ⟨v2, gv2, h⟩ := oB_out h
      refine r_ci (r_runV (k := 72) (ci := 10) (As := [.int x3, .int x4]) (rest := [.long (31 * x1)]) S hE hw (c_X10_about  l G A σ x3 x4 gv2) (cwV 2 hts gX10_digest_X10_about rfl rfl rfl (by decide +kernel) ⟨Nat.le_of_ble_eq_true rfl, Nat.le_of_ble_eq_true rfl⟩) rfl rfl (by decide) rfl hl.1 rfl (Nat.le_of_ble_eq_true rfl) ⟨Nat.zero_le _, Nat.zero_le _⟩ dX10_digest_60) hw (fun H locs hw => ?_)
      refine lv_i2l (v := v2.toInt64) hx hb dX10_digest_63 rfl ?_
      refine lv_ladd hx hb dX10_digest_64 ?_
      refine lv_lstore_n (lv' := [(1, .long ((31 * x1) + v2.toInt64)), (0, .ref (ad G 72)), (3, .int x3), (4, .int x4)]) hx hb dX10_digest_65 rfl hl (by decide) rfl (fun ls hl => ?_)
      refine lv_iinc (v := x4 + 1) (lv' := [(4, .int (x4 + 1)), (1, .long ((31 * x1) + v2.toInt64)), (0, .ref (ad G 72)), (3, .int x3)]) hx hb dX10_digest_66 hl (k := 3) rfl rfl (by decide) rfl (fun ls hl => ?_)
      refine lv_goto (tgt := 44) hx hb dX10_digest_69 (by decide) ?_
      exact ih σ ((31 * x1) + v2.toInt64) x3 (x4 + 1) h hw (lv_sub hl [2, 1, 3, 0] rfl)

def f_X10_digest_132 : Nat → St → Int64 → Int32 → Option Int64
  | 0, _, _, _ => none
  | n + 1, σ, x1, x3 => if (σ.1 72 23) ≤ x3 then (some x1) else (Option.bind (aL σ 93 4 x3) fun v2 => Option.bind (aL σ 94 4 x3) fun v3 => f_X10_digest_132 n σ ((31 * ((31 * x1) + v2.toInt64)) + v3.toInt64) (x3 + 1))
set_option maxRecDepth 100000 in
set_option maxHeartbeats 4000000 in
theorem w_X10_digest_132 {p : Program} {l : Launch} {e : Env} {s : State} {m : MethodId} {args : Array Value} {below : List Frame} {meth : Method} {c : Code} {G : Gp} {A : Nat → Prop} (S : CallFix p m c cX10_digest 6 s args wsX10_digest RX10) (hr : meth.sig.returnType = (some .long)) (hlocks : meth.locks = false) (hE : Ev G A s) (n : Nat) (σ : St) (x1 : Int64) (x3 : Int32) {r : Int64} (h : f_X10_digest_132   n σ x1 x3 = some r) {H : Heap} {locs : List Loc} {ls : Array Slot} (hw : Ww G A σ s H locs) (hl : lv_has ls 6 [(0, .ref (ad G 72)), (1, .long x1), (3, .int x3)]) : W p l e (rmd 3) s m args below meth c H locs 0 0 (Ql below args s G A r σ) (F0 m 132 ls []) := by
  obtain ⟨hx, hb, hml, hown, hts⟩ := id S
  induction n generalizing σ x1 x3 r  H locs ls with
  | zero => cases h
  | succ n ih =>
    unfold f_X10_digest_132 at h
    refine lv_iload_n hx hb dX10_digest_132 rfl (lv_at hl 2 rfl) ?_
    refine lv_aload_n hx hb dX10_digest_133 rfl (lv_at hl 0 rfl) ?_
    refine r_gi S hE hw 23 iw10_X10_digest rfl rfl (by decide) (hts _ mf115_X10_digest) dX10_digest_134 ?_
    refine lv_icmp_ge (tgt := 172) hx hb dX10_digest_137 (by decide) (fun c1 => ?_) (fun c1 => ?_)
    · have h := if_t c1 h
      refine lv_lload_n hx hb dX10_digest_172 rfl (lv_at hl 1 rfl) ?_
      obtain rfl := Option.some.inj h
      exact r_lret S hr hlocks hw dX10_digest_173
    · have h := if_f c1 h
      refine lv_ldc2 (v := 31) hx hb hown (hts _ mc214_X10_digest) dX10_digest_140 ?_
      refine lv_ldc2 (v := 31) hx hb hown (hts _ mc214_X10_digest) dX10_digest_143 ?_
      refine lv_lload_n hx hb dX10_digest_146 rfl (lv_at hl 1 rfl) ?_
      refine lv_lmul hx hb dX10_digest_147 ?_
      refine lv_aload_n hx hb dX10_digest_148 rfl (lv_at hl 0 rfl) ?_
      refine r_gr S hE hw 24 93 iw10_X10_digest rfl rfl (by decide) rfl (hts _ mf78_X10_digest) dX10_digest_149 ?_
      refine lv_iload_n hx hb dX10_digest_152 rfl (lv_at hl 2 rfl) ?_
      obtain ⟨v2, gv2, h⟩ := oB_out h
      refine r_al S hE hw rfl rfl gv2 dX10_digest_153 ?_
      refine lv_i2l (v := v2.toInt64) hx hb dX10_digest_154 rfl ?_
      refine lv_ladd hx hb dX10_digest_155 ?_
      refine lv_lmul hx hb dX10_digest_156 ?_
      refine lv_aload_n hx hb dX10_digest_157 rfl (lv_at hl 0 rfl) ?_
      refine r_gr S hE hw 25 94 iw10_X10_digest rfl rfl (by decide) rfl (hts _ mf81_X10_digest) dX10_digest_158 ?_
      refine lv_iload_n hx hb dX10_digest_161 rfl (lv_at hl 2 rfl) ?_
      obtain ⟨v3, gv3, h⟩ := oB_out h
      refine r_al S hE hw rfl rfl gv3 dX10_digest_162 ?_
      refine lv_i2l (v := v3.toInt64) hx hb dX10_digest_163 rfl ?_
      refine lv_ladd hx hb dX10_digest_164 ?_
      refine lv_lstore_n (lv' := [(1, .long ((31 * ((31 * x1) + v2.toInt64)) + v3.toInt64)), (0, .ref (ad G 72)), (3, .int x3)]) hx hb dX10_digest_165 rfl hl (by decide) rfl (fun ls hl => ?_)
      refine lv_iinc (v := x3 + 1) (lv' := [(3, .int (x3 + 1)), (1, .long ((31 * ((31 * x1) + v2.toInt64)) + v3.toInt64)), (0, .ref (ad G 72))]) hx hb dX10_digest_166 hl (k := 2) rfl rfl (by decide) rfl (fun ls hl => ?_)
      refine lv_goto (tgt := 132) hx hb dX10_digest_169 (by decide) ?_
      exact ih σ ((31 * ((31 * x1) + v2.toInt64)) + v3.toInt64) (x3 + 1) h hw (lv_sub hl [2, 1, 0] rfl)

def f_X10_digest_33 : Nat → St → Int64 → Int32 → Option Int64
  | 0, _, _, _ => none
  | n + 1, σ, x1, x3 => if (σ.1 72 8) ≤ x3 then (f_X10_digest_132 10000 σ x1 0) else (f_X10_digest_44 (fun σ x1 x3 => f_X10_digest_33 n σ x1 x3) 10000 σ x1 x3 0)
set_option maxRecDepth 100000 in
set_option maxHeartbeats 4000000 in
theorem w_X10_digest_33 {p : Program} {l : Launch} {e : Env} {s : State} {m : MethodId} {args : Array Value} {below : List Frame} {meth : Method} {c : Code} {G : Gp} {A : Nat → Prop} (S : CallFix p m c cX10_digest 6 s args wsX10_digest RX10) (hr : meth.sig.returnType = (some .long)) (hlocks : meth.locks = false) (hE : Ev G A s) (n : Nat) (σ : St) (x1 : Int64) (x3 : Int32) {r : Int64} (h : f_X10_digest_33   n σ x1 x3 = some r) {H : Heap} {locs : List Loc} {ls : Array Slot} (hw : Ww G A σ s H locs) (hl : lv_has ls 6 [(0, .ref (ad G 72)), (1, .long x1), (3, .int x3)]) : W p l e (rmd 3) s m args below meth c H locs 0 0 (Ql below args s G A r σ) (F0 m 33 ls []) := by
  obtain ⟨hx, hb, hml, hown, hts⟩ := id S
  induction n generalizing σ x1 x3 r  H locs ls with
  | zero => cases h
  | succ n ih =>
    unfold f_X10_digest_33 at h
    refine lv_iload_n hx hb dX10_digest_33 rfl (lv_at hl 2 rfl) ?_
    refine lv_aload_n hx hb dX10_digest_34 rfl (lv_at hl 0 rfl) ?_
    refine r_gi S hE hw 8 iw10_X10_digest rfl rfl (by decide) (hts _ mf112_X10_digest) dX10_digest_35 ?_
    refine lv_icmp_ge (tgt := 130) hx hb dX10_digest_38 (by decide) (fun c1 => ?_) (fun c1 => ?_)
    · have h := if_t c1 h
      refine lv_iconst (v := 0) hx hb dX10_digest_130 (by decide) ?_
      refine lv_istore_n (lv' := [(3, .int 0), (0, .ref (ad G 72)), (1, .long x1)]) hx hb dX10_digest_131 rfl hl (by decide) rfl (fun ls hl => ?_)
      exact w_X10_digest_132   S hr hlocks hE  10000 σ x1 0 h hw (lv_sub hl [1, 2, 0] rfl)
    · have h := if_f c1 h
      refine lv_iconst (v := 0) hx hb dX10_digest_41 (by decide) ?_
      refine lv_istore (lv' := [(4, .int 0), (0, .ref (ad G 72)), (1, .long x1), (3, .int x3)]) hx hb dX10_digest_42 hl (by decide) rfl (fun ls hl => ?_)
      exact w_X10_digest_44   S hr hlocks hE (fun σ x1 x3  _ _ h _ _ _ hw hl => ih σ x1 x3  h hw hl) 10000 σ x1 x3 0 h hw (lv_sub hl [1, 2, 3, 0] rfl)

def f_X10_digest_6 : Nat → St → Int64 → Int32 → Option Int64
  | 0, _, _, _ => none
  | n + 1, σ, x1, x3 => if 7 ≤ x3 then (f_X10_digest_33 10000 σ x1 0) else (Option.bind (f_X10_count σ x3) fun v2 => f_X10_digest_6 n σ ((31 * x1) + v2.toInt64) (x3 + 1))
set_option maxRecDepth 100000 in
set_option maxHeartbeats 4000000 in
theorem w_X10_digest_6 {p : Program} {l : Launch} {e : Env} {s : State} {m : MethodId} {args : Array Value} {below : List Frame} {meth : Method} {c : Code} {G : Gp} {A : Nat → Prop} (S : CallFix p m c cX10_digest 6 s args wsX10_digest RX10) (hr : meth.sig.returnType = (some .long)) (hlocks : meth.locks = false) (hE : Ev G A s) (n : Nat) (σ : St) (x1 : Int64) (x3 : Int32) {r : Int64} (h : f_X10_digest_6   n σ x1 x3 = some r) {H : Heap} {locs : List Loc} {ls : Array Slot} (hw : Ww G A σ s H locs) (hl : lv_has ls 6 [(0, .ref (ad G 72)), (1, .long x1), (3, .int x3)]) : W p l e (rmd 3) s m args below meth c H locs 0 0 (Ql below args s G A r σ) (F0 m 6 ls []) := by
  obtain ⟨hx, hb, hml, hown, hts⟩ := id S
  induction n generalizing σ x1 x3 r  H locs ls with
  | zero => cases h
  | succ n ih =>
    unfold f_X10_digest_6 at h
    refine lv_iload_n hx hb dX10_digest_6 rfl (lv_at hl 2 rfl) ?_
    refine lv_bipush (v := 7) hx hb dX10_digest_7 (by decide) ?_
    refine lv_icmp_ge (tgt := 31) hx hb dX10_digest_9 (by decide) (fun c1 => ?_) (fun c1 => ?_)
    · have h := if_t c1 h
      refine lv_iconst (v := 0) hx hb dX10_digest_31 (by decide) ?_
      refine lv_istore_n (lv' := [(3, .int 0), (0, .ref (ad G 72)), (1, .long x1)]) hx hb dX10_digest_32 rfl hl (by decide) rfl (fun ls hl => ?_)
      exact w_X10_digest_33   S hr hlocks hE  10000 σ x1 0 h hw (lv_sub hl [1, 2, 0] rfl)
    · have h := if_f c1 h
      refine lv_ldc2 (v := 31) hx hb hown (hts _ mc214_X10_digest) dX10_digest_12 ?_
      refine lv_lload_n hx hb dX10_digest_15 rfl (lv_at hl 1 rfl) ?_
      refine lv_lmul hx hb dX10_digest_16 ?_
      refine lv_aload_n hx hb dX10_digest_17 rfl (lv_at hl 0 rfl) ?_
      refine lv_iload_n hx hb dX10_digest_18 rfl (lv_at hl 2 rfl) ?_
      obtain ⟨v2, gv2, h⟩ := oB_out h
      refine r_ci (r_runV (k := 72) (ci := 10) (As := [.int x3]) (rest := [.long (31 * x1)]) S hE hw (c_X10_count  l G A σ x3 gv2) (cwV 1 hts gX10_digest_X10_count rfl rfl rfl (by decide +kernel) ⟨Nat.le_of_ble_eq_true rfl, Nat.le_of_ble_eq_true rfl⟩) rfl rfl (by decide) rfl hl.1 rfl (Nat.le_of_ble_eq_true rfl) ⟨Nat.zero_le _, Nat.zero_le _⟩ dX10_digest_19) hw (fun H locs hw => ?_)
      refine lv_i2l (v := v2.toInt64) hx hb dX10_digest_22 rfl ?_
      refine lv_ladd hx hb dX10_digest_23 ?_
      refine lv_lstore_n (lv' := [(1, .long ((31 * x1) + v2.toInt64)), (0, .ref (ad G 72)), (3, .int x3)]) hx hb dX10_digest_24 rfl hl (by decide) rfl (fun ls hl => ?_)
      refine lv_iinc (v := x3 + 1) (lv' := [(3, .int (x3 + 1)), (1, .long ((31 * x1) + v2.toInt64)), (0, .ref (ad G 72))]) hx hb dX10_digest_25 hl (k := 2) rfl rfl (by decide) rfl (fun ls hl => ?_)
      refine lv_goto (tgt := 6) hx hb dX10_digest_28 (by decide) ?_
      exact ih σ ((31 * x1) + v2.toInt64) (x3 + 1) h hw (lv_sub hl [2, 1, 0] rfl)

def f_X10_digest (σ : St) : Option Int64 := f_X10_digest_6 10000 σ 163 0
set_option maxRecDepth 100000 in
set_option maxHeartbeats 4000000 in
theorem c_X10_digest (l : Launch) (G : Gp) (A : Nat → Prop) (σ : St) {r : Int64} (h : f_X10_digest σ  = some r) : Kl l yX10_digest wsX10_digest 3 G A [.ref (ad G 72)] σ r σ := by
  unfold f_X10_digest at h
  refine r_start (ws := wsX10_digest) (d := 3) (by decide) rfl [.ref (ad G 72)] (Nat.le_of_ble_eq_true rfl) ?_
  intro p e s m below meth c S hr hlocks hE hw ls hl
  have hl : lv_has ls 6 [(0, .ref (ad G 72))] := hl
  obtain ⟨hx, hb, hml, hown, hts⟩ := id S
  refine lv_ldc2 (v := 163) hx hb hown (hts _ mc212_X10_digest) dX10_digest_0 ?_
  refine lv_lstore_n (lv' := [(1, .long 163), (0, .ref (ad G 72))]) hx hb dX10_digest_3 rfl hl (by decide) rfl (fun ls hl => ?_)
  refine lv_iconst (v := 0) hx hb dX10_digest_4 (by decide) ?_
  refine lv_istore_n (lv' := [(3, .int 0), (1, .long 163), (0, .ref (ad G 72))]) hx hb dX10_digest_5 rfl hl (by decide) rfl (fun ls hl => ?_)
  exact w_X10_digest_6   S hr hlocks hE  10000 σ 163 0 h hw (lv_sub hl [2, 1, 0] rfl)

