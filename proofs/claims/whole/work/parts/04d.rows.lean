theorem mf96_X10_goOn : Cond.fieldLink RX10 96 "GasVoyagesModel" "nextWhole" "[I" ∈ wsX10_goOn := by decide +kernel
set_option maxRecDepth 20000 in
theorem iw10_X10_goOn : ∀ w ∈ u_ws RX10 TX10 43, w ∈ wsX10_goOn := by decide +kernel
theorem mf99_X10_goOn : Cond.fieldLink RX10 99 "GasVoyagesModel" "nextBroken" "[I" ∈ wsX10_goOn := by decide +kernel
theorem mf90_X10_goOn : Cond.fieldLink RX10 90 "GasVoyagesModel" "whole" "[I" ∈ wsX10_goOn := by decide +kernel
theorem mf93_X10_goOn : Cond.fieldLink RX10 93 "GasVoyagesModel" "broken" "[I" ∈ wsX10_goOn := by decide +kernel
theorem mf75_X10_goOn : Cond.fieldLink RX10 75 "GasVoyagesModel" "lost" "[Z" ∈ wsX10_goOn := by decide +kernel
theorem mf69_X10_goOn : Cond.fieldLink RX10 69 "GasVoyagesModel" "logCell" "[I" ∈ wsX10_goOn := by decide +kernel
theorem mf72_X10_goOn : Cond.fieldLink RX10 72 "GasVoyagesModel" "logLevel" "[I" ∈ wsX10_goOn := by decide +kernel
theorem mf16_X10_goOn : Cond.fieldLink RX10 16 "GasVoyagesModel" "kinds" "[I" ∈ wsX10_goOn := by decide +kernel
def f_X10_goOn_253 (kn36 : St → Int32 → Int32 → Int32 → Int32 → Option St) (kn89 : St → Int32 → Int32 → Int32 → Int32 → Int32 → Int32 → Int32 → Option St) (σ : St) (x1 : Int32) (x2 : Int32) (x3 : Int32) (x4 : Int32) (x5 : Int32) (x6 : Int32) (x7 : Int32) (x8 : Int32) (x9 : Int32) : Option St := if x9 = 0 then (kn89 σ x1 x2 x3 x4 x5 x6 (x7 + 1)) else (Option.bind (aL σ 99 4608 ((8 * x8) + x7)) fun v2 => Option.bind (aL σ 97 4608 x4) fun v3 => Option.bind (aS σ 99 4608 ((8 * x8) + x7) (f_X10_sum v2 v3)) fun s4 => Option.bind (aL s4 100 4608 ((8 * x8) + x7)) fun v5 => Option.bind (aL s4 98 4608 x4) fun v6 => Option.bind (aS s4 100 4608 ((8 * x8) + x7) (f_X10_sum v5 v6)) fun s7 => kn89 s7 x1 x2 x3 x4 x5 x6 (x7 + 1))
set_option maxRecDepth 100000 in
set_option maxHeartbeats 4000000 in
theorem w_X10_goOn_253 {p : Program} {l : Launch} {e : Env} {s : State} {m : MethodId} {args : Array Value} {below : List Frame} {meth : Method} {c : Code} {G : Gp} {A : Nat → Prop} (S : CallFix p m c cX10_goOn 10 s args wsX10_goOn RX10) (hr : meth.sig.returnType = none) (hlocks : meth.locks = false) (hE : Ev G A s) {kn36 : St → Int32 → Int32 → Int32 → Int32 → Option St} {kn89 : St → Int32 → Int32 → Int32 → Int32 → Int32 → Int32 → Int32 → Option St} (hkn36 : ∀ (σ : St) (x1 : Int32) (x2 : Int32) (x3 : Int32) (x4 : Int32) (_ : Unit) (σ' : St), kn36 σ x1 x2 x3 x4 = some σ' → ∀ (H : Heap) (locs : List Loc) (ls : Array Slot), Ww G A σ s H locs → lv_has ls 10 [(0, .ref (ad G 72)), (1, .int x1), (2, .int x2), (3, .int x3), (4, .int x4)] → W p l e (rmd 3) s m args below meth c H locs 0 0 (Qv below args s G A σ') (F0 m 36 ls [])) (hkn89 : ∀ (σ : St) (x1 : Int32) (x2 : Int32) (x3 : Int32) (x4 : Int32) (x5 : Int32) (x6 : Int32) (x7 : Int32) (_ : Unit) (σ' : St), kn89 σ x1 x2 x3 x4 x5 x6 x7 = some σ' → ∀ (H : Heap) (locs : List Loc) (ls : Array Slot), Ww G A σ s H locs → lv_has ls 10 [(0, .ref (ad G 72)), (1, .int x1), (2, .int x2), (3, .int x3), (4, .int x4), (5, .int x5), (6, .int x6), (7, .int x7)] → W p l e (rmd 3) s m args below meth c H locs 0 0 (Qv below args s G A σ') (F0 m 89 ls [])) (σ : St) (x1 : Int32) (x2 : Int32) (x3 : Int32) (x4 : Int32) (x5 : Int32) (x6 : Int32) (x7 : Int32) (x8 : Int32) (x9 : Int32) {σ' : St} (h : f_X10_goOn_253  kn36 kn89 σ x1 x2 x3 x4 x5 x6 x7 x8 x9 = some σ') {H : Heap} {locs : List Loc} {ls : Array Slot} (hw : Ww G A σ s H locs) (hl : lv_has ls 10 [(0, .ref (ad G 72)), (1, .int x1), (2, .int x2), (3, .int x3), (4, .int x4), (5, .int x5), (6, .int x6), (7, .int x7), (8, .int x8), (9, .int x9)]) : W p l e (rmd 3) s m args below meth c H locs 0 0 (Qv below args s G A σ') (F0 m 253 ls []) := by
  obtain ⟨hx, hb, hml, hown, hts⟩ := id S
  unfold f_X10_goOn_253 at h
  refine lv_iload hx hb dX10_goOn_253 (lv_at hl 9 rfl) ?_
  refine lv_if_eq (tgt := 330) hx hb dX10_goOn_255 (by decide) (fun c1 => ?_) (fun c1 => ?_)
  · have h := if_t c1 h
    refine lv_iinc (v := x7 + 1) (lv' := [(7, .int (x7 + 1)), (0, .ref (ad G 72)), (1, .int x1), (2, .int x2), (3, .int x3), (4, .int x4), (5, .int x5), (6, .int x6), (8, .int x8), (9, .int x9)]) hx hb dX10_goOn_330 hl (k := 7) rfl rfl (by decide) rfl (fun ls hl => ?_)
    refine lv_goto (tgt := 89) hx hb dX10_goOn_333 (by decide) ?_
    exact hkn89 σ x1 x2 x3 x4 x5 x6 (x7 + 1) () _ h _ _ _ hw (lv_sub hl [1, 2, 3, 4, 5, 6, 7, 0] rfl)
  · have h := if_f c1 h
    refine lv_aload_n hx hb dX10_goOn_258 rfl (lv_at hl 0 rfl) ?_
    refine r_gr S hE hw 37 99 iw10_X10_goOn rfl rfl (by decide) rfl (hts _ mf96_X10_goOn) dX10_goOn_259 ?_
    refine lv_bipush (v := 8) hx hb dX10_goOn_262 (by decide) ?_
    refine lv_iload hx hb dX10_goOn_264 (lv_at hl 8 rfl) ?_
    refine lv_imul hx hb dX10_goOn_266 ?_
    refine lv_iload hx hb dX10_goOn_267 (lv_at hl 7 rfl) ?_
    refine lv_iadd hx hb dX10_goOn_269 ?_
    refine lv_aload_n hx hb dX10_goOn_270 rfl (lv_at hl 0 rfl) ?_
    refine r_gr S hE hw 37 99 iw10_X10_goOn rfl rfl (by decide) rfl (hts _ mf96_X10_goOn) dX10_goOn_271 ?_
    refine lv_bipush (v := 8) hx hb dX10_goOn_274 (by decide) ?_
    refine lv_iload hx hb dX10_goOn_276 (lv_at hl 8 rfl) ?_
    refine lv_imul hx hb dX10_goOn_278 ?_
    refine lv_iload hx hb dX10_goOn_279 (lv_at hl 7 rfl) ?_
    refine lv_iadd hx hb dX10_goOn_281 ?_
    obtain ⟨v2, gv2, h⟩ := oB_out h
    refine r_al S hE hw rfl rfl gv2 dX10_goOn_282 ?_
    refine lv_aload_n hx hb dX10_goOn_283 rfl (lv_at hl 0 rfl) ?_
    refine r_gr S hE hw 35 97 iw10_X10_goOn rfl rfl (by decide) rfl (hts _ mf90_X10_goOn) dX10_goOn_284 ?_
    refine lv_iload hx hb dX10_goOn_287 (lv_at hl 4 rfl) ?_
    obtain ⟨v3, gv3, h⟩ := oB_out h
    refine r_al S hE hw rfl rfl gv3 dX10_goOn_289 ?_
    refine r_ci (r_runS (As := [.int v2, .int v3]) (rest := [.int ((8 * x8) + x7), .ref (ad G 99)]) S hE hw (c_X10_sum  l G A σ v2 v3) (va_cwS 2 hts gX10_goOn_X10_sum rfl rfl rfl (by decide +kernel) ⟨Nat.le_of_ble_eq_true rfl, Nat.le_of_ble_eq_true rfl⟩) rfl hl.1 rfl (Nat.le_of_ble_eq_true rfl) ⟨Nat.zero_le _, Nat.zero_le _⟩ dX10_goOn_290) hw (fun H locs hw => ?_)
    obtain ⟨s4, gs4, h⟩ := oB_out h
    refine r_as S hE hw rfl rfl gs4 dX10_goOn_293 (fun H locs hw => ?_)
    refine lv_aload_n hx hb dX10_goOn_294 rfl (lv_at hl 0 rfl) ?_
    refine r_gr S hE hw 38 100 iw10_X10_goOn rfl rfl (by decide) rfl (hts _ mf99_X10_goOn) dX10_goOn_295 ?_
    refine lv_bipush (v := 8) hx hb dX10_goOn_298 (by decide) ?_
    refine lv_iload hx hb dX10_goOn_300 (lv_at hl 8 rfl) ?_
    refine lv_imul hx hb dX10_goOn_302 ?_
    refine lv_iload hx hb dX10_goOn_303 (lv_at hl 7 rfl) ?_
    refine lv_iadd hx hb dX10_goOn_305 ?_
    refine lv_aload_n hx hb dX10_goOn_306 rfl (lv_at hl 0 rfl) ?_
    refine r_gr S hE hw 38 100 iw10_X10_goOn rfl rfl (by decide) rfl (hts _ mf99_X10_goOn) dX10_goOn_307 ?_
    refine lv_bipush (v := 8) hx hb dX10_goOn_310 (by decide) ?_
    refine lv_iload hx hb dX10_goOn_312 (lv_at hl 8 rfl) ?_
    refine lv_imul hx hb dX10_goOn_314 ?_
    refine lv_iload hx hb dX10_goOn_315 (lv_at hl 7 rfl) ?_
    refine lv_iadd hx hb dX10_goOn_317 ?_
    obtain ⟨v5, gv5, h⟩ := oB_out h
    refine r_al S hE hw rfl rfl gv5 dX10_goOn_318 ?_
    refine lv_aload_n hx hb dX10_goOn_319 rfl (lv_at hl 0 rfl) ?_
    refine r_gr S hE hw 36 98 iw10_X10_goOn rfl rfl (by decide) rfl (hts _ mf93_X10_goOn) dX10_goOn_320 ?_
    refine lv_iload hx hb dX10_goOn_323 (lv_at hl 4 rfl) ?_
    obtain ⟨v6, gv6, h⟩ := oB_out h
    refine r_al S hE hw rfl rfl gv6 dX10_goOn_325 ?_
    refine r_ci (r_runS (As := [.int v5, .int v6]) (rest := [.int ((8 * x8) + x7), .ref (ad G 100)]) S hE hw (c_X10_sum  l G A s4 v5 v6) (va_cwS 2 hts gX10_goOn_X10_sum rfl rfl rfl (by decide +kernel) ⟨Nat.le_of_ble_eq_true rfl, Nat.le_of_ble_eq_true rfl⟩) rfl hl.1 rfl (Nat.le_of_ble_eq_true rfl) ⟨Nat.zero_le _, Nat.zero_le _⟩ dX10_goOn_326) hw (fun H locs hw => ?_)
    obtain ⟨s7, gs7, h⟩ := oB_out h
    refine r_as S hE hw rfl rfl gs7 dX10_goOn_329 (fun H locs hw => ?_)
    refine lv_iinc (v := x7 + 1) (lv' := [(7, .int (x7 + 1)), (0, .ref (ad G 72)), (1, .int x1), (2, .int x2), (3, .int x3), (4, .int x4), (5, .int x5), (6, .int x6), (8, .int x8), (9, .int x9)]) hx hb dX10_goOn_330 hl (k := 7) rfl rfl (by decide) rfl (fun ls hl => ?_)
    refine lv_goto (tgt := 89) hx hb dX10_goOn_333 (by decide) ?_
    exact hkn89 s7 x1 x2 x3 x4 x5 x6 (x7 + 1) () _ h _ _ _ hw (lv_sub hl [1, 2, 3, 4, 5, 6, 7, 0] rfl)

def f_X10_goOn_186 (kn36 : St → Int32 → Int32 → Int32 → Int32 → Option St) (kn89 : St → Int32 → Int32 → Int32 → Int32 → Int32 → Int32 → Int32 → Option St) (σ : St) (x1 : Int32) (x2 : Int32) (x3 : Int32) (x4 : Int32) (x5 : Int32) (x6 : Int32) (x7 : Int32) (x8 : Int32) (y0 : Int32) : Option St := if y0 = 0 then (f_X10_goOn_253 kn36 kn89 σ x1 x2 x3 x4 x5 x6 x7 x8 y0) else (Option.bind (aL σ 73 576 x8) fun v2 => if v2 = 2 then (Option.bind (aL σ 100 4608 ((8 * x8) + x7)) fun v4 => Option.bind (aL σ 97 4608 x4) fun v5 => Option.bind (aL σ 98 4608 x4) fun v6 => Option.bind (aS σ 100 4608 ((8 * x8) + x7) (f_X10_sum v4 (f_X10_sum v5 v6))) fun s7 => kn89 s7 x1 x2 x3 x4 x5 x6 (x7 + 1)) else (f_X10_goOn_253 kn36 kn89 σ x1 x2 x3 x4 x5 x6 x7 x8 y0))
set_option maxRecDepth 100000 in
set_option maxHeartbeats 4000000 in
theorem w_X10_goOn_186 {p : Program} {l : Launch} {e : Env} {s : State} {m : MethodId} {args : Array Value} {below : List Frame} {meth : Method} {c : Code} {G : Gp} {A : Nat → Prop} (S : CallFix p m c cX10_goOn 10 s args wsX10_goOn RX10) (hr : meth.sig.returnType = none) (hlocks : meth.locks = false) (hE : Ev G A s) {kn36 : St → Int32 → Int32 → Int32 → Int32 → Option St} {kn89 : St → Int32 → Int32 → Int32 → Int32 → Int32 → Int32 → Int32 → Option St} (hkn36 : ∀ (σ : St) (x1 : Int32) (x2 : Int32) (x3 : Int32) (x4 : Int32) (_ : Unit) (σ' : St), kn36 σ x1 x2 x3 x4 = some σ' → ∀ (H : Heap) (locs : List Loc) (ls : Array Slot), Ww G A σ s H locs → lv_has ls 10 [(0, .ref (ad G 72)), (1, .int x1), (2, .int x2), (3, .int x3), (4, .int x4)] → W p l e (rmd 3) s m args below meth c H locs 0 0 (Qv below args s G A σ') (F0 m 36 ls [])) (hkn89 : ∀ (σ : St) (x1 : Int32) (x2 : Int32) (x3 : Int32) (x4 : Int32) (x5 : Int32) (x6 : Int32) (x7 : Int32) (_ : Unit) (σ' : St), kn89 σ x1 x2 x3 x4 x5 x6 x7 = some σ' → ∀ (H : Heap) (locs : List Loc) (ls : Array Slot), Ww G A σ s H locs → lv_has ls 10 [(0, .ref (ad G 72)), (1, .int x1), (2, .int x2), (3, .int x3), (4, .int x4), (5, .int x5), (6, .int x6), (7, .int x7)] → W p l e (rmd 3) s m args below meth c H locs 0 0 (Qv below args s G A σ') (F0 m 89 ls [])) (σ : St) (x1 : Int32) (x2 : Int32) (x3 : Int32) (x4 : Int32) (x5 : Int32) (x6 : Int32) (x7 : Int32) (x8 : Int32) (y0 : Int32) {σ' : St} (h : f_X10_goOn_186  kn36 kn89 σ x1 x2 x3 x4 x5 x6 x7 x8 y0 = some σ') {H : Heap} {locs : List Loc} {ls : Array Slot} (hw : Ww G A σ s H locs) (hl : lv_has ls 10 [(0, .ref (ad G 72)), (1, .int x1), (2, .int x2), (3, .int x3), (4, .int x4), (5, .int x5), (6, .int x6), (7, .int x7), (8, .int x8)]) : W p l e (rmd 3) s m args below meth c H locs 0 0 (Qv below args s G A σ') (F0 m 186 ls [.int y0]) := by
  obtain ⟨hx, hb, hml, hown, hts⟩ := id S
  unfold f_X10_goOn_186 at h
  refine lv_istore (lv' := [(9, .int y0), (0, .ref (ad G 72)), (1, .int x1), (2, .int x2), (3, .int x3), (4, .int x4), (5, .int x5), (6, .int x6), (7, .int x7), (8, .int x8)]) hx hb dX10_goOn_186 hl (by decide) rfl (fun ls hl => ?_)
  refine lv_iload hx hb dX10_goOn_188 (lv_at hl 0 rfl) ?_
  refine lv_if_eq (tgt := 253) hx hb dX10_goOn_190 (by decide) (fun c1 => ?_) (fun c1 => ?_)
  · have h := if_t c1 h
    exact w_X10_goOn_253   S hr hlocks hE hkn36 hkn89  σ x1 x2 x3 x4 x5 x6 x7 x8 y0 h hw (lv_sub hl [1, 2, 3, 4, 5, 6, 7, 8, 9, 0] rfl)
  · have h := if_f c1 h
    refine lv_aload_n hx hb dX10_goOn_193 rfl (lv_at hl 1 rfl) ?_
    refine r_gr S hE hw 2 73 iw10_X10_goOn rfl rfl (by decide) rfl (hts _ mf16_X10_goOn) dX10_goOn_194 ?_
    refine lv_iload hx hb dX10_goOn_197 (lv_at hl 9 rfl) ?_
    obtain ⟨v2, gv2, h⟩ := oB_out h
    refine r_al S hE hw rfl rfl gv2 dX10_goOn_199 ?_
    refine lv_iconst (v := 2) hx hb dX10_goOn_200 (by decide) ?_
    refine lv_icmp_ne (tgt := 253) hx hb dX10_goOn_201 (by decide) (fun c3 => ?_) (fun c3 => ?_)
    · have h := if_f c3 h
      exact w_X10_goOn_253   S hr hlocks hE hkn36 hkn89  σ x1 x2 x3 x4 x5 x6 x7 x8 y0 h hw (lv_sub hl [1, 2, 3, 4, 5, 6, 7, 8, 9, 0] rfl)
    · have h := if_t c3 h
      refine lv_aload_n hx hb dX10_goOn_204 rfl (lv_at hl 1 rfl) ?_
      refine r_gr S hE hw 38 100 iw10_X10_goOn rfl rfl (by decide) rfl (hts _ mf99_X10_goOn) dX10_goOn_205 ?_
      refine lv_bipush (v := 8) hx hb dX10_goOn_208 (by decide) ?_
      refine lv_iload hx hb dX10_goOn_210 (lv_at hl 9 rfl) ?_
      refine lv_imul hx hb dX10_goOn_212 ?_
      refine lv_iload hx hb dX10_goOn_213 (lv_at hl 8 rfl) ?_
      refine lv_iadd hx hb dX10_goOn_215 ?_
      refine lv_aload_n hx hb dX10_goOn_216 rfl (lv_at hl 1 rfl) ?_
      refine r_gr S hE hw 38 100 iw10_X10_goOn rfl rfl (by decide) rfl (hts _ mf99_X10_goOn) dX10_goOn_217 ?_
      refine lv_bipush (v := 8) hx hb dX10_goOn_220 (by decide) ?_
      refine lv_iload hx hb dX10_goOn_222 (lv_at hl 9 rfl) ?_
      refine lv_imul hx hb dX10_goOn_224 ?_
      refine lv_iload hx hb dX10_goOn_225 (lv_at hl 8 rfl) ?_
      refine lv_iadd hx hb dX10_goOn_227 ?_
      obtain ⟨v4, gv4, h⟩ := oB_out h
      refine r_al S hE hw rfl rfl gv4 dX10_goOn_228 ?_
      refine lv_aload_n hx hb dX10_goOn_229 rfl (lv_at hl 1 rfl) ?_
      refine r_gr S hE hw 35 97 iw10_X10_goOn rfl rfl (by decide) rfl (hts _ mf90_X10_goOn) dX10_goOn_230 ?_
      refine lv_iload hx hb dX10_goOn_233 (lv_at hl 5 rfl) ?_
      obtain ⟨v5, gv5, h⟩ := oB_out h
      refine r_al S hE hw rfl rfl gv5 dX10_goOn_235 ?_
      refine lv_aload_n hx hb dX10_goOn_236 rfl (lv_at hl 1 rfl) ?_
      refine r_gr S hE hw 36 98 iw10_X10_goOn rfl rfl (by decide) rfl (hts _ mf93_X10_goOn) dX10_goOn_237 ?_
      refine lv_iload hx hb dX10_goOn_240 (lv_at hl 5 rfl) ?_
      obtain ⟨v6, gv6, h⟩ := oB_out h
      refine r_al S hE hw rfl rfl gv6 dX10_goOn_242 ?_
      refine r_ci (r_runS (As := [.int v5, .int v6]) (rest := [.int v4, .int ((8 * x8) + x7), .ref (ad G 100)]) S hE hw (c_X10_sum  l G A σ v5 v6) (va_cwS 2 hts gX10_goOn_X10_sum rfl rfl rfl (by decide +kernel) ⟨Nat.le_of_ble_eq_true rfl, Nat.le_of_ble_eq_true rfl⟩) rfl hl.1 rfl (Nat.le_of_ble_eq_true rfl) ⟨Nat.zero_le _, Nat.zero_le _⟩ dX10_goOn_243) hw (fun H locs hw => ?_)
      refine r_ci (r_runS (As := [.int v4, .int (f_X10_sum v5 v6)]) (rest := [.int ((8 * x8) + x7), .ref (ad G 100)]) S hE hw (c_X10_sum  l G A σ v4 (f_X10_sum v5 v6)) (va_cwS 2 hts gX10_goOn_X10_sum rfl rfl rfl (by decide +kernel) ⟨Nat.le_of_ble_eq_true rfl, Nat.le_of_ble_eq_true rfl⟩) rfl hl.1 rfl (Nat.le_of_ble_eq_true rfl) ⟨Nat.zero_le _, Nat.zero_le _⟩ dX10_goOn_246) hw (fun H locs hw => ?_)
      obtain ⟨s7, gs7, h⟩ := oB_out h
      refine r_as S hE hw rfl rfl gs7 dX10_goOn_249 (fun H locs hw => ?_)
      refine lv_goto (tgt := 330) hx hb dX10_goOn_250 (by decide) ?_
      refine lv_iinc (v := x7 + 1) (lv' := [(7, .int (x7 + 1)), (9, .int y0), (0, .ref (ad G 72)), (1, .int x1), (2, .int x2), (3, .int x3), (4, .int x4), (5, .int x5), (6, .int x6), (8, .int x8)]) hx hb dX10_goOn_330 hl (k := 8) rfl rfl (by decide) rfl (fun ls hl => ?_)
      refine lv_goto (tgt := 89) hx hb dX10_goOn_333 (by decide) ?_
      exact hkn89 s7 x1 x2 x3 x4 x5 x6 (x7 + 1) () _ h _ _ _ hw (lv_sub hl [2, 3, 4, 5, 6, 7, 8, 0] rfl)

def f_X10_goOn_133 (kn36 : St → Int32 → Int32 → Int32 → Int32 → Option St) (kn89 : St → Int32 → Int32 → Int32 → Int32 → Int32 → Int32 → Int32 → Option St) (σ : St) (x1 : Int32) (x2 : Int32) (x3 : Int32) (x4 : Int32) (x5 : Int32) (x6 : Int32) (x7 : Int32) (y0 : Int32) : Option St := Option.bind (aL σ 92 488 ((61 * x1) + x2)) fun v1 => if v1 = 0 then (Option.bind (aL σ 90 488 ((61 * x1) + x2)) fun v3 => if v3 = y0 then (Option.bind (aL σ 91 488 ((61 * x1) + x2)) fun v5 => if v5 = x7 then (f_X10_goOn_186 kn36 kn89 σ x1 x2 x3 x4 x5 x6 x7 y0 1) else (f_X10_goOn_186 kn36 kn89 σ x1 x2 x3 x4 x5 x6 x7 y0 0)) else (f_X10_goOn_186 kn36 kn89 σ x1 x2 x3 x4 x5 x6 x7 y0 0)) else (f_X10_goOn_186 kn36 kn89 σ x1 x2 x3 x4 x5 x6 x7 y0 1)
set_option maxRecDepth 100000 in
set_option maxHeartbeats 4000000 in
theorem w_X10_goOn_133 {p : Program} {l : Launch} {e : Env} {s : State} {m : MethodId} {args : Array Value} {below : List Frame} {meth : Method} {c : Code} {G : Gp} {A : Nat → Prop} (S : CallFix p m c cX10_goOn 10 s args wsX10_goOn RX10) (hr : meth.sig.returnType = none) (hlocks : meth.locks = false) (hE : Ev G A s) {kn36 : St → Int32 → Int32 → Int32 → Int32 → Option St} {kn89 : St → Int32 → Int32 → Int32 → Int32 → Int32 → Int32 → Int32 → Option St} (hkn36 : ∀ (σ : St) (x1 : Int32) (x2 : Int32) (x3 : Int32) (x4 : Int32) (_ : Unit) (σ' : St), kn36 σ x1 x2 x3 x4 = some σ' → ∀ (H : Heap) (locs : List Loc) (ls : Array Slot), Ww G A σ s H locs → lv_has ls 10 [(0, .ref (ad G 72)), (1, .int x1), (2, .int x2), (3, .int x3), (4, .int x4)] → W p l e (rmd 3) s m args below meth c H locs 0 0 (Qv below args s G A σ') (F0 m 36 ls [])) (hkn89 : ∀ (σ : St) (x1 : Int32) (x2 : Int32) (x3 : Int32) (x4 : Int32) (x5 : Int32) (x6 : Int32) (x7 : Int32) (_ : Unit) (σ' : St), kn89 σ x1 x2 x3 x4 x5 x6 x7 = some σ' → ∀ (H : Heap) (locs : List Loc) (ls : Array Slot), Ww G A σ s H locs → lv_has ls 10 [(0, .ref (ad G 72)), (1, .int x1), (2, .int x2), (3, .int x3), (4, .int x4), (5, .int x5), (6, .int x6), (7, .int x7)] → W p l e (rmd 3) s m args below meth c H locs 0 0 (Qv below args s G A σ') (F0 m 89 ls [])) (σ : St) (x1 : Int32) (x2 : Int32) (x3 : Int32) (x4 : Int32) (x5 : Int32) (x6 : Int32) (x7 : Int32) (y0 : Int32) {σ' : St} (h : f_X10_goOn_133  kn36 kn89 σ x1 x2 x3 x4 x5 x6 x7 y0 = some σ') {H : Heap} {locs : List Loc} {ls : Array Slot} (hw : Ww G A σ s H locs) (hl : lv_has ls 10 [(0, .ref (ad G 72)), (1, .int x1), (2, .int x2), (3, .int x3), (4, .int x4), (5, .int x5), (6, .int x6), (7, .int x7)]) : W p l e (rmd 3) s m args below meth c H locs 0 0 (Qv below args s G A σ') (F0 m 133 ls [.int y0]) := by
  obtain ⟨hx, hb, hml, hown, hts⟩ := id S
  unfold f_X10_goOn_133 at h
  refine lv_istore (lv' := [(8, .int y0), (0, .ref (ad G 72)), (1, .int x1), (2, .int x2), (3, .int x3), (4, .int x4), (5, .int x5), (6, .int x6), (7, .int x7)]) hx hb dX10_goOn_133 hl (by decide) rfl (fun ls hl => ?_)
  refine lv_aload_n hx hb dX10_goOn_135 rfl (lv_at hl 1 rfl) ?_
  refine r_gr S hE hw 22 92 iw10_X10_goOn rfl rfl (by decide) rfl (hts _ mf75_X10_goOn) dX10_goOn_136 ?_
  refine lv_bipush (v := 61) hx hb dX10_goOn_139 (by decide) ?_
  refine lv_iload_n hx hb dX10_goOn_141 rfl (lv_at hl 2 rfl) ?_
  refine lv_imul hx hb dX10_goOn_142 ?_
  refine lv_iload_n hx hb dX10_goOn_143 rfl (lv_at hl 3 rfl) ?_
  refine lv_iadd hx hb dX10_goOn_144 ?_
  obtain ⟨v1, gv1, h⟩ := oB_out h
  refine r_zl S hE hw rfl rfl gv1 dX10_goOn_145 ?_
  refine lv_if_ne (tgt := 181) hx hb dX10_goOn_146 (by decide) (fun c2 => ?_) (fun c2 => ?_)
  · have h := if_f c2 h
    refine lv_iconst (v := 1) hx hb dX10_goOn_181 (by decide) ?_
    refine lv_goto (tgt := 186) hx hb dX10_goOn_182 (by decide) ?_
    exact w_X10_goOn_186   S hr hlocks hE hkn36 hkn89  σ x1 x2 x3 x4 x5 x6 x7 y0 1 h hw (lv_sub hl [1, 2, 3, 4, 5, 6, 7, 8, 0] rfl)
  · have h := if_t c2 h
    refine lv_aload_n hx hb dX10_goOn_149 rfl (lv_at hl 1 rfl) ?_
    refine r_gr S hE hw 20 90 iw10_X10_goOn rfl rfl (by decide) rfl (hts _ mf69_X10_goOn) dX10_goOn_150 ?_
    refine lv_bipush (v := 61) hx hb dX10_goOn_153 (by decide) ?_
    refine lv_iload_n hx hb dX10_goOn_155 rfl (lv_at hl 2 rfl) ?_
    refine lv_imul hx hb dX10_goOn_156 ?_
    refine lv_iload_n hx hb dX10_goOn_157 rfl (lv_at hl 3 rfl) ?_
    refine lv_iadd hx hb dX10_goOn_158 ?_
    obtain ⟨v3, gv3, h⟩ := oB_out h
    refine r_al S hE hw rfl rfl gv3 dX10_goOn_159 ?_
    refine lv_iload hx hb dX10_goOn_160 (lv_at hl 0 rfl) ?_
    refine lv_icmp_ne (tgt := 185) hx hb dX10_goOn_162 (by decide) (fun c4 => ?_) (fun c4 => ?_)
    · have h := if_f c4 h
      refine lv_iconst (v := 0) hx hb dX10_goOn_185 (by decide) ?_
      exact w_X10_goOn_186   S hr hlocks hE hkn36 hkn89  σ x1 x2 x3 x4 x5 x6 x7 y0 0 h hw (lv_sub hl [1, 2, 3, 4, 5, 6, 7, 8, 0] rfl)
    · have h := if_t c4 h
      refine lv_aload_n hx hb dX10_goOn_165 rfl (lv_at hl 1 rfl) ?_
      refine r_gr S hE hw 21 91 iw10_X10_goOn rfl rfl (by decide) rfl (hts _ mf72_X10_goOn) dX10_goOn_166 ?_
      refine lv_bipush (v := 61) hx hb dX10_goOn_169 (by decide) ?_
      refine lv_iload_n hx hb dX10_goOn_171 rfl (lv_at hl 2 rfl) ?_
      refine lv_imul hx hb dX10_goOn_172 ?_
      refine lv_iload_n hx hb dX10_goOn_173 rfl (lv_at hl 3 rfl) ?_
      refine lv_iadd hx hb dX10_goOn_174 ?_
      obtain ⟨v5, gv5, h⟩ := oB_out h
      refine r_al S hE hw rfl rfl gv5 dX10_goOn_175 ?_
      refine lv_iload hx hb dX10_goOn_176 (lv_at hl 8 rfl) ?_
      refine lv_icmp_ne (tgt := 185) hx hb dX10_goOn_178 (by decide) (fun c6 => ?_) (fun c6 => ?_)
      · have h := if_f c6 h
        refine lv_iconst (v := 0) hx hb dX10_goOn_185 (by decide) ?_
        exact w_X10_goOn_186   S hr hlocks hE hkn36 hkn89  σ x1 x2 x3 x4 x5 x6 x7 y0 0 h hw (lv_sub hl [1, 2, 3, 4, 5, 6, 7, 8, 0] rfl)
      · have h := if_t c6 h
        refine lv_iconst (v := 1) hx hb dX10_goOn_181 (by decide) ?_
        refine lv_goto (tgt := 186) hx hb dX10_goOn_182 (by decide) ?_
        exact w_X10_goOn_186   S hr hlocks hE hkn36 hkn89  σ x1 x2 x3 x4 x5 x6 x7 y0 1 h hw (lv_sub hl [1, 2, 3, 4, 5, 6, 7, 8, 0] rfl)

def f_X10_goOn_89 (kn36 : St → Int32 → Int32 → Int32 → Int32 → Option St) : Nat → St → Int32 → Int32 → Int32 → Int32 → Int32 → Int32 → Int32 → Option St
  | 0, _, _, _, _, _, _, _, _ => none
  | n + 1, σ, x1, x2, x3, x4, x5, x6, x7 => if (x5 + 1) < x7 then (kn36 σ x1 x2 x3 (x4 + 1)) else (if 8 ≤ x7 then (kn36 σ x1 x2 x3 (x4 + 1)) else (if x7 = 0 then (f_X10_goOn_133 kn36 (fun σ x1 x2 x3 x4 x5 x6 x7 => f_X10_goOn_89 kn36 n σ x1 x2 x3 x4 x5 x6 x7) σ x1 x2 x3 x4 x5 x6 x7 x6) else (Option.bind (f_X10_led σ 0 x7 x3 (x6 - x6 / 24 * 24) (x6 / 24)) fun v4 => f_X10_goOn_133 kn36 (fun σ x1 x2 x3 x4 x5 x6 x7 => f_X10_goOn_89 kn36 n σ x1 x2 x3 x4 x5 x6 x7) σ x1 x2 x3 x4 x5 x6 x7 v4)))
set_option maxRecDepth 100000 in
set_option maxHeartbeats 4000000 in
theorem w_X10_goOn_89 {p : Program} {l : Launch} {e : Env} {s : State} {m : MethodId} {args : Array Value} {below : List Frame} {meth : Method} {c : Code} {G : Gp} {A : Nat → Prop} (S : CallFix p m c cX10_goOn 10 s args wsX10_goOn RX10) (hr : meth.sig.returnType = none) (hlocks : meth.locks = false) (hE : Ev G A s) {kn36 : St → Int32 → Int32 → Int32 → Int32 → Option St} (hkn36 : ∀ (σ : St) (x1 : Int32) (x2 : Int32) (x3 : Int32) (x4 : Int32) (_ : Unit) (σ' : St), kn36 σ x1 x2 x3 x4 = some σ' → ∀ (H : Heap) (locs : List Loc) (ls : Array Slot), Ww G A σ s H locs → lv_has ls 10 [(0, .ref (ad G 72)), (1, .int x1), (2, .int x2), (3, .int x3), (4, .int x4)] → W p l e (rmd 3) s m args below meth c H locs 0 0 (Qv below args s G A σ') (F0 m 36 ls [])) (n : Nat) (σ : St) (x1 : Int32) (x2 : Int32) (x3 : Int32) (x4 : Int32) (x5 : Int32) (x6 : Int32) (x7 : Int32) {σ' : St} (h : f_X10_goOn_89  kn36 n σ x1 x2 x3 x4 x5 x6 x7 = some σ') {H : Heap} {locs : List Loc} {ls : Array Slot} (hw : Ww G A σ s H locs) (hl : lv_has ls 10 [(0, .ref (ad G 72)), (1, .int x1), (2, .int x2), (3, .int x3), (4, .int x4), (5, .int x5), (6, .int x6), (7, .int x7)]) : W p l e (rmd 3) s m args below meth c H locs 0 0 (Qv below args s G A σ') (F0 m 89 ls []) := by
  obtain ⟨hx, hb, hml, hown, hts⟩ := id S
  induction n generalizing σ x1 x2 x3 x4 x5 x6 x7  σ' H locs ls with
  | zero => cases h
  | succ n ih =>
    unfold f_X10_goOn_89 at h
    refine lv_iload hx hb dX10_goOn_89 (lv_at hl 7 rfl) ?_
    refine lv_iload hx hb dX10_goOn_91 (lv_at hl 5 rfl) ?_
    refine lv_iconst (v := 1) hx hb dX10_goOn_93 (by decide) ?_
    refine lv_iadd hx hb dX10_goOn_94 ?_
    refine lv_icmp_gt (tgt := 336) hx hb dX10_goOn_95 (by decide) (fun c1 => ?_) (fun c1 => ?_)
    · have h := if_t c1 h
      refine lv_iinc (v := x4 + 1) (lv' := [(4, .int (x4 + 1)), (0, .ref (ad G 72)), (1, .int x1), (2, .int x2), (3, .int x3), (5, .int x5), (6, .int x6), (7, .int x7)]) hx hb dX10_goOn_336 hl (k := 4) rfl rfl (by decide) rfl (fun ls hl => ?_)
      refine lv_goto (tgt := 36) hx hb dX10_goOn_339 (by decide) ?_
      exact hkn36 σ x1 x2 x3 (x4 + 1) () _ h _ _ _ hw (lv_sub hl [1, 2, 3, 4, 0] rfl)
    · have h := if_f c1 h
      refine lv_iload hx hb dX10_goOn_98 (lv_at hl 7 rfl) ?_
      refine lv_bipush (v := 8) hx hb dX10_goOn_100 (by decide) ?_
      refine lv_icmp_ge (tgt := 336) hx hb dX10_goOn_102 (by decide) (fun c2 => ?_) (fun c2 => ?_)
      · have h := if_t c2 h
        refine lv_iinc (v := x4 + 1) (lv' := [(4, .int (x4 + 1)), (0, .ref (ad G 72)), (1, .int x1), (2, .int x2), (3, .int x3), (5, .int x5), (6, .int x6), (7, .int x7)]) hx hb dX10_goOn_336 hl (k := 4) rfl rfl (by decide) rfl (fun ls hl => ?_)
        refine lv_goto (tgt := 36) hx hb dX10_goOn_339 (by decide) ?_
        exact hkn36 σ x1 x2 x3 (x4 + 1) () _ h _ _ _ hw (lv_sub hl [1, 2, 3, 4, 0] rfl)
      · have h := if_f c2 h
        refine lv_iload hx hb dX10_goOn_105 (lv_at hl 7 rfl) ?_
        refine lv_if_ne (tgt := 115) hx hb dX10_goOn_107 (by decide) (fun c3 => ?_) (fun c3 => ?_)
        · have h := if_f c3 h
          refine lv_aload_n hx hb dX10_goOn_115 rfl (lv_at hl 0 rfl) ?_
          refine lv_iconst (v := 0) hx hb dX10_goOn_116 (by decide) ?_
          refine lv_iload hx hb dX10_goOn_117 (lv_at hl 7 rfl) ?_
          refine lv_iload_n hx hb dX10_goOn_119 rfl (lv_at hl 3 rfl) ?_
          refine lv_iload hx hb dX10_goOn_120 (lv_at hl 6 rfl) ?_
          refine lv_bipush (v := 24) hx hb dX10_goOn_122 (by decide) ?_
          refine lv_irem hx hb dX10_goOn_124 (by decide) ?_
          refine lv_iload hx hb dX10_goOn_125 (lv_at hl 6 rfl) ?_
          refine lv_bipush (v := 24) hx hb dX10_goOn_127 (by decide) ?_
          refine lv_idiv hx hb dX10_goOn_129 (by decide) ?_
          obtain ⟨v4, gv4, h⟩ := oB_out h
          refine r_ci (r_runV (k := 72) (ci := 10) (As := [.int 0, .int x7, .int x3, .int (x6 - x6 / 24 * 24), .int (x6 / 24)]) (rest := []) S hE hw (c_X10_led  l G A σ 0 x7 x3 (x6 - x6 / 24 * 24) (x6 / 24) gv4) (cwV 5 hts gX10_goOn_X10_led rfl rfl rfl (by decide +kernel) ⟨Nat.le_of_ble_eq_true rfl, Nat.le_of_ble_eq_true rfl⟩) rfl rfl (by decide) rfl hl.1 rfl (Nat.le_of_ble_eq_true rfl) ⟨Nat.zero_le _, Nat.zero_le _⟩ dX10_goOn_130) hw (fun H locs hw => ?_)
          exact w_X10_goOn_133   S hr hlocks hE hkn36 (fun σ x1 x2 x3 x4 x5 x6 x7  _ _ h _ _ _ hw hl => ih σ x1 x2 x3 x4 x5 x6 x7  h hw hl)  σ x1 x2 x3 x4 x5 x6 x7 v4 h hw (lv_sub hl [0, 1, 2, 3, 4, 5, 6, 7] rfl)
        · have h := if_t c3 h
          refine lv_iload hx hb dX10_goOn_110 (lv_at hl 6 rfl) ?_
          refine lv_goto (tgt := 133) hx hb dX10_goOn_112 (by decide) ?_
          exact w_X10_goOn_133   S hr hlocks hE hkn36 (fun σ x1 x2 x3 x4 x5 x6 x7  _ _ h _ _ _ hw hl => ih σ x1 x2 x3 x4 x5 x6 x7  h hw hl)  σ x1 x2 x3 x4 x5 x6 x7 x6 h hw (lv_sub hl [0, 1, 2, 3, 4, 5, 6, 7] rfl)

def f_X10_goOn_76 (kn36 : St → Int32 → Int32 → Int32 → Int32 → Option St) (σ : St) (x1 : Int32) (x2 : Int32) (x3 : Int32) (x4 : Int32) (x5 : Int32) : Option St := f_X10_goOn_89 kn36 10000 σ x1 x2 x3 x4 x5 (x4 / 8) (x5 - 1)
set_option maxRecDepth 100000 in
set_option maxHeartbeats 4000000 in
theorem w_X10_goOn_76 {p : Program} {l : Launch} {e : Env} {s : State} {m : MethodId} {args : Array Value} {below : List Frame} {meth : Method} {c : Code} {G : Gp} {A : Nat → Prop} (S : CallFix p m c cX10_goOn 10 s args wsX10_goOn RX10) (hr : meth.sig.returnType = none) (hlocks : meth.locks = false) (hE : Ev G A s) {kn36 : St → Int32 → Int32 → Int32 → Int32 → Option St} (hkn36 : ∀ (σ : St) (x1 : Int32) (x2 : Int32) (x3 : Int32) (x4 : Int32) (_ : Unit) (σ' : St), kn36 σ x1 x2 x3 x4 = some σ' → ∀ (H : Heap) (locs : List Loc) (ls : Array Slot), Ww G A σ s H locs → lv_has ls 10 [(0, .ref (ad G 72)), (1, .int x1), (2, .int x2), (3, .int x3), (4, .int x4)] → W p l e (rmd 3) s m args below meth c H locs 0 0 (Qv below args s G A σ') (F0 m 36 ls [])) (σ : St) (x1 : Int32) (x2 : Int32) (x3 : Int32) (x4 : Int32) (x5 : Int32) {σ' : St} (h : f_X10_goOn_76  kn36 σ x1 x2 x3 x4 x5 = some σ') {H : Heap} {locs : List Loc} {ls : Array Slot} (hw : Ww G A σ s H locs) (hl : lv_has ls 10 [(0, .ref (ad G 72)), (1, .int x1), (2, .int x2), (3, .int x3), (4, .int x4), (5, .int x5)]) : W p l e (rmd 3) s m args below meth c H locs 0 0 (Qv below args s G A σ') (F0 m 76 ls []) := by
  obtain ⟨hx, hb, hml, hown, hts⟩ := id S
  unfold f_X10_goOn_76 at h
  refine lv_iload hx hb dX10_goOn_76 (lv_at hl 4 rfl) ?_
  refine lv_bipush (v := 8) hx hb dX10_goOn_78 (by decide) ?_
  refine lv_idiv hx hb dX10_goOn_80 (by decide) ?_
  refine lv_istore (lv' := [(6, .int (x4 / 8)), (0, .ref (ad G 72)), (1, .int x1), (2, .int x2), (3, .int x3), (4, .int x4), (5, .int x5)]) hx hb dX10_goOn_81 hl (by decide) rfl (fun ls hl => ?_)
  refine lv_iload hx hb dX10_goOn_83 (lv_at hl 6 rfl) ?_
  refine lv_iconst (v := 1) hx hb dX10_goOn_85 (by decide) ?_
  refine lv_isub hx hb dX10_goOn_86 ?_
  refine lv_istore (lv' := [(7, .int (x5 - 1)), (6, .int (x4 / 8)), (0, .ref (ad G 72)), (1, .int x1), (2, .int x2), (3, .int x3), (4, .int x4), (5, .int x5)]) hx hb dX10_goOn_87 hl (by decide) rfl (fun ls hl => ?_)
  exact w_X10_goOn_89   S hr hlocks hE hkn36 10000 σ x1 x2 x3 x4 x5 (x4 / 8) (x5 - 1) h hw (lv_sub hl [2, 3, 4, 5, 6, 7, 1, 0] rfl)

def f_X10_goOn_345 : Nat → St → Int32 → Option St
  | 0, _, _ => none
  | n + 1, σ, x4 => if 4608 ≤ x4 then (some σ) else (Option.bind (aL σ 99 4608 x4) fun v2 => Option.bind (aS σ 97 4608 x4 v2) fun s3 => Option.bind (aL s3 100 4608 x4) fun v4 => Option.bind (aS s3 98 4608 x4 v4) fun s5 => f_X10_goOn_345 n s5 (x4 + 1))
set_option maxRecDepth 100000 in
set_option maxHeartbeats 4000000 in
theorem w_X10_goOn_345 {p : Program} {l : Launch} {e : Env} {s : State} {m : MethodId} {args : Array Value} {below : List Frame} {meth : Method} {c : Code} {G : Gp} {A : Nat → Prop} (S : CallFix p m c cX10_goOn 10 s args wsX10_goOn RX10) (hr : meth.sig.returnType = none) (hlocks : meth.locks = false) (hE : Ev G A s) (n : Nat) (σ : St) (x4 : Int32) {σ' : St} (h : f_X10_goOn_345   n σ x4 = some σ') {H : Heap} {locs : List Loc} {ls : Array Slot} (hw : Ww G A σ s H locs) (hl : lv_has ls 10 [(0, .ref (ad G 72)), (4, .int x4)]) : W p l e (rmd 3) s m args below meth c H locs 0 0 (Qv below args s G A σ') (F0 m 345 ls []) := by
  obtain ⟨hx, hb, hml, hown, hts⟩ := id S
  induction n generalizing σ x4  σ' H locs ls with
  | zero => cases h
  | succ n ih =>
    unfold f_X10_goOn_345 at h
    refine lv_iload hx hb dX10_goOn_345 (lv_at hl 1 rfl) ?_
    refine lv_sipush (v := 4608) hx hb dX10_goOn_347 (by decide) ?_
    refine lv_icmp_ge (tgt := 387) hx hb dX10_goOn_350 (by decide) (fun c1 => ?_) (fun c1 => ?_)
    · have h := if_t c1 h
      obtain rfl := Option.some.inj h
      exact r_vret S hr hlocks hw dX10_goOn_387
    · have h := if_f c1 h
      refine lv_aload_n hx hb dX10_goOn_353 rfl (lv_at hl 0 rfl) ?_
      refine r_gr S hE hw 35 97 iw10_X10_goOn rfl rfl (by decide) rfl (hts _ mf90_X10_goOn) dX10_goOn_354 ?_
      refine lv_iload hx hb dX10_goOn_357 (lv_at hl 1 rfl) ?_
      refine lv_aload_n hx hb dX10_goOn_359 rfl (lv_at hl 0 rfl) ?_
      refine r_gr S hE hw 37 99 iw10_X10_goOn rfl rfl (by decide) rfl (hts _ mf96_X10_goOn) dX10_goOn_360 ?_
      refine lv_iload hx hb dX10_goOn_363 (lv_at hl 1 rfl) ?_
      obtain ⟨v2, gv2, h⟩ := oB_out h
      refine r_al S hE hw rfl rfl gv2 dX10_goOn_365 ?_
      obtain ⟨s3, gs3, h⟩ := oB_out h
      refine r_as S hE hw rfl rfl gs3 dX10_goOn_366 (fun H locs hw => ?_)
      refine lv_aload_n hx hb dX10_goOn_367 rfl (lv_at hl 0 rfl) ?_
      refine r_gr S hE hw 36 98 iw10_X10_goOn rfl rfl (by decide) rfl (hts _ mf93_X10_goOn) dX10_goOn_368 ?_
      refine lv_iload hx hb dX10_goOn_371 (lv_at hl 1 rfl) ?_
      refine lv_aload_n hx hb dX10_goOn_373 rfl (lv_at hl 0 rfl) ?_
      refine r_gr S hE hw 38 100 iw10_X10_goOn rfl rfl (by decide) rfl (hts _ mf99_X10_goOn) dX10_goOn_374 ?_
      refine lv_iload hx hb dX10_goOn_377 (lv_at hl 1 rfl) ?_
      obtain ⟨v4, gv4, h⟩ := oB_out h
      refine r_al S hE hw rfl rfl gv4 dX10_goOn_379 ?_
      obtain ⟨s5, gs5, h⟩ := oB_out h
      refine r_as S hE hw rfl rfl gs5 dX10_goOn_380 (fun H locs hw => ?_)
      refine lv_iinc (v := x4 + 1) (lv' := [(4, .int (x4 + 1)), (0, .ref (ad G 72))]) hx hb dX10_goOn_381 hl (k := 1) rfl rfl (by decide) rfl (fun ls hl => ?_)
      refine lv_goto (tgt := 345) hx hb dX10_goOn_384 (by decide) ?_
      exact ih s5 (x4 + 1) h hw (lv_sub hl [1, 0] rfl)

def f_X10_goOn_36 : Nat → St → Int32 → Int32 → Int32 → Int32 → Option St
  | 0, _, _, _, _, _ => none
  | n + 1, σ, x1, x2, x3, x4 => if 4608 ≤ x4 then (f_X10_goOn_345 10000 σ 0) else (if (x4 - x4 / 8 * 8) ≤ 0 then (f_X10_goOn_36 n σ x1 x2 x3 (x4 + 1)) else (Option.bind (aL σ 97 4608 x4) fun v3 => if 0 < v3 then (f_X10_goOn_76 (fun σ x1 x2 x3 x4 => f_X10_goOn_36 n σ x1 x2 x3 x4) σ x1 x2 x3 x4 (x4 - x4 / 8 * 8)) else (Option.bind (aL σ 98 4608 x4) fun v5 => if v5 ≤ 0 then (f_X10_goOn_36 n σ x1 x2 x3 (x4 + 1)) else (f_X10_goOn_76 (fun σ x1 x2 x3 x4 => f_X10_goOn_36 n σ x1 x2 x3 x4) σ x1 x2 x3 x4 (x4 - x4 / 8 * 8)))))
set_option maxRecDepth 100000 in
set_option maxHeartbeats 4000000 in
theorem w_X10_goOn_36 {p : Program} {l : Launch} {e : Env} {s : State} {m : MethodId} {args : Array Value} {below : List Frame} {meth : Method} {c : Code} {G : Gp} {A : Nat → Prop} (S : CallFix p m c cX10_goOn 10 s args wsX10_goOn RX10) (hr : meth.sig.returnType = none) (hlocks : meth.locks = false) (hE : Ev G A s) (n : Nat) (σ : St) (x1 : Int32) (x2 : Int32) (x3 : Int32) (x4 : Int32) {σ' : St} (h : f_X10_goOn_36   n σ x1 x2 x3 x4 = some σ') {H : Heap} {locs : List Loc} {ls : Array Slot} (hw : Ww G A σ s H locs) (hl : lv_has ls 10 [(0, .ref (ad G 72)), (1, .int x1), (2, .int x2), (3, .int x3), (4, .int x4)]) : W p l e (rmd 3) s m args below meth c H locs 0 0 (Qv below args s G A σ') (F0 m 36 ls []) := by
  obtain ⟨hx, hb, hml, hown, hts⟩ := id S
  induction n generalizing σ x1 x2 x3 x4  σ' H locs ls with
  | zero => cases h
  | succ n ih =>
    unfold f_X10_goOn_36 at h
    refine lv_iload hx hb dX10_goOn_36 (lv_at hl 4 rfl) ?_
    refine lv_sipush (v := 4608) hx hb dX10_goOn_38 (by decide) ?_
    refine lv_icmp_ge (tgt := 342) hx hb dX10_goOn_41 (by decide) (fun c1 => ?_) (fun c1 => ?_)
    · have h := if_t c1 h
      refine lv_iconst (v := 0) hx hb dX10_goOn_342 (by decide) ?_
      refine lv_istore (lv' := [(4, .int 0), (0, .ref (ad G 72)), (1, .int x1), (2, .int x2), (3, .int x3)]) hx hb dX10_goOn_343 hl (by decide) rfl (fun ls hl => ?_)
      exact w_X10_goOn_345   S hr hlocks hE  10000 σ 0 h hw (lv_sub hl [1, 0] rfl)
    · have h := if_f c1 h
      refine lv_iload hx hb dX10_goOn_44 (lv_at hl 4 rfl) ?_
      refine lv_bipush (v := 8) hx hb dX10_goOn_46 (by decide) ?_
      refine lv_irem hx hb dX10_goOn_48 (by decide) ?_
      refine lv_istore (lv' := [(5, .int (x4 - x4 / 8 * 8)), (0, .ref (ad G 72)), (1, .int x1), (2, .int x2), (3, .int x3), (4, .int x4)]) hx hb dX10_goOn_49 hl (by decide) rfl (fun ls hl => ?_)
      refine lv_iload hx hb dX10_goOn_51 (lv_at hl 0 rfl) ?_
      refine lv_if_le (tgt := 336) hx hb dX10_goOn_53 (by decide) (fun c2 => ?_) (fun c2 => ?_)
      · have h := if_t c2 h
        refine lv_iinc (v := x4 + 1) (lv' := [(4, .int (x4 + 1)), (5, .int (x4 - x4 / 8 * 8)), (0, .ref (ad G 72)), (1, .int x1), (2, .int x2), (3, .int x3)]) hx hb dX10_goOn_336 hl (k := 5) rfl rfl (by decide) rfl (fun ls hl => ?_)
        refine lv_goto (tgt := 36) hx hb dX10_goOn_339 (by decide) ?_
        exact ih σ x1 x2 x3 (x4 + 1) h hw (lv_sub hl [2, 3, 4, 5, 0] rfl)
      · have h := if_f c2 h
        refine lv_aload_n hx hb dX10_goOn_56 rfl (lv_at hl 1 rfl) ?_
        refine r_gr S hE hw 35 97 iw10_X10_goOn rfl rfl (by decide) rfl (hts _ mf90_X10_goOn) dX10_goOn_57 ?_
        refine lv_iload hx hb dX10_goOn_60 (lv_at hl 5 rfl) ?_
        obtain ⟨v3, gv3, h⟩ := oB_out h
        refine r_al S hE hw rfl rfl gv3 dX10_goOn_62 ?_
        refine lv_if_gt (tgt := 76) hx hb dX10_goOn_63 (by decide) (fun c4 => ?_) (fun c4 => ?_)
        · have h := if_t c4 h
          exact w_X10_goOn_76   S hr hlocks hE (fun σ x1 x2 x3 x4  _ _ h _ _ _ hw hl => ih σ x1 x2 x3 x4  h hw hl)  σ x1 x2 x3 x4 (x4 - x4 / 8 * 8) h hw (lv_sub hl [1, 2, 3, 4, 5, 0] rfl)
        · have h := if_f c4 h
          refine lv_aload_n hx hb dX10_goOn_66 rfl (lv_at hl 1 rfl) ?_
          refine r_gr S hE hw 36 98 iw10_X10_goOn rfl rfl (by decide) rfl (hts _ mf93_X10_goOn) dX10_goOn_67 ?_
          refine lv_iload hx hb dX10_goOn_70 (lv_at hl 5 rfl) ?_
          obtain ⟨v5, gv5, h⟩ := oB_out h
          refine r_al S hE hw rfl rfl gv5 dX10_goOn_72 ?_
          refine lv_if_le (tgt := 336) hx hb dX10_goOn_73 (by decide) (fun c6 => ?_) (fun c6 => ?_)
          · have h := if_t c6 h
            refine lv_iinc (v := x4 + 1) (lv' := [(4, .int (x4 + 1)), (5, .int (x4 - x4 / 8 * 8)), (0, .ref (ad G 72)), (1, .int x1), (2, .int x2), (3, .int x3)]) hx hb dX10_goOn_336 hl (k := 5) rfl rfl (by decide) rfl (fun ls hl => ?_)
            refine lv_goto (tgt := 36) hx hb dX10_goOn_339 (by decide) ?_
            exact ih σ x1 x2 x3 (x4 + 1) h hw (lv_sub hl [2, 3, 4, 5, 0] rfl)
          · have h := if_f c6 h
            exact w_X10_goOn_76   S hr hlocks hE (fun σ x1 x2 x3 x4  _ _ h _ _ _ hw hl => ih σ x1 x2 x3 x4  h hw hl)  σ x1 x2 x3 x4 (x4 - x4 / 8 * 8) h hw (lv_sub hl [1, 2, 3, 4, 5, 0] rfl)

def f_X10_goOn_3 : Nat → St → Int32 → Int32 → Int32 → Int32 → Option St
  | 0, _, _, _, _, _ => none
  | n + 1, σ, x1, x2, x3, x4 => if 4608 ≤ x4 then (f_X10_goOn_36 10000 σ x1 x2 x3 0) else (Option.bind (aS σ 99 4608 x4 0) fun s2 => Option.bind (aS s2 100 4608 x4 0) fun s3 => f_X10_goOn_3 n s3 x1 x2 x3 (x4 + 1))
set_option maxRecDepth 100000 in
set_option maxHeartbeats 4000000 in
theorem w_X10_goOn_3 {p : Program} {l : Launch} {e : Env} {s : State} {m : MethodId} {args : Array Value} {below : List Frame} {meth : Method} {c : Code} {G : Gp} {A : Nat → Prop} (S : CallFix p m c cX10_goOn 10 s args wsX10_goOn RX10) (hr : meth.sig.returnType = none) (hlocks : meth.locks = false) (hE : Ev G A s) (n : Nat) (σ : St) (x1 : Int32) (x2 : Int32) (x3 : Int32) (x4 : Int32) {σ' : St} (h : f_X10_goOn_3   n σ x1 x2 x3 x4 = some σ') {H : Heap} {locs : List Loc} {ls : Array Slot} (hw : Ww G A σ s H locs) (hl : lv_has ls 10 [(0, .ref (ad G 72)), (1, .int x1), (2, .int x2), (3, .int x3), (4, .int x4)]) : W p l e (rmd 3) s m args below meth c H locs 0 0 (Qv below args s G A σ') (F0 m 3 ls []) := by
  obtain ⟨hx, hb, hml, hown, hts⟩ := id S
  induction n generalizing σ x1 x2 x3 x4  σ' H locs ls with
  | zero => cases h
  | succ n ih =>
    unfold f_X10_goOn_3 at h
    refine lv_iload hx hb dX10_goOn_3 (lv_at hl 4 rfl) ?_
    refine lv_sipush (v := 4608) hx hb dX10_goOn_5 (by decide) ?_
    refine lv_icmp_ge (tgt := 33) hx hb dX10_goOn_8 (by decide) (fun c1 => ?_) (fun c1 => ?_)
    · have h := if_t c1 h
      refine lv_iconst (v := 0) hx hb dX10_goOn_33 (by decide) ?_
      refine lv_istore (lv' := [(4, .int 0), (0, .ref (ad G 72)), (1, .int x1), (2, .int x2), (3, .int x3)]) hx hb dX10_goOn_34 hl (by decide) rfl (fun ls hl => ?_)
      exact w_X10_goOn_36   S hr hlocks hE  10000 σ x1 x2 x3 0 h hw (lv_sub hl [1, 2, 3, 4, 0] rfl)
    · have h := if_f c1 h
      refine lv_aload_n hx hb dX10_goOn_11 rfl (lv_at hl 0 rfl) ?_
      refine r_gr S hE hw 37 99 iw10_X10_goOn rfl rfl (by decide) rfl (hts _ mf96_X10_goOn) dX10_goOn_12 ?_
      refine lv_iload hx hb dX10_goOn_15 (lv_at hl 4 rfl) ?_
      refine lv_iconst (v := 0) hx hb dX10_goOn_17 (by decide) ?_
      obtain ⟨s2, gs2, h⟩ := oB_out h
      refine r_as S hE hw rfl rfl gs2 dX10_goOn_18 (fun H locs hw => ?_)
      refine lv_aload_n hx hb dX10_goOn_19 rfl (lv_at hl 0 rfl) ?_
      refine r_gr S hE hw 38 100 iw10_X10_goOn rfl rfl (by decide) rfl (hts _ mf99_X10_goOn) dX10_goOn_20 ?_
      refine lv_iload hx hb dX10_goOn_23 (lv_at hl 4 rfl) ?_
      refine lv_iconst (v := 0) hx hb dX10_goOn_25 (by decide) ?_
      obtain ⟨s3, gs3, h⟩ := oB_out h
      refine r_as S hE hw rfl rfl gs3 dX10_goOn_26 (fun H locs hw => ?_)
      refine lv_iinc (v := x4 + 1) (lv' := [(4, .int (x4 + 1)), (0, .ref (ad G 72)), (1, .int x1), (2, .int x2), (3, .int x3)]) hx hb dX10_goOn_27 hl (k := 4) rfl rfl (by decide) rfl (fun ls hl => ?_)
      refine lv_goto (tgt := 3) hx hb dX10_goOn_30 (by decide) ?_
      exact ih s3 x1 x2 x3 (x4 + 1) h hw (lv_sub hl [1, 2, 3, 4, 0] rfl)

def f_X10_goOn (σ : St) (p1 : Int32) (p2 : Int32) (p3 : Int32) : Option St := f_X10_goOn_3 10000 σ p1 p2 p3 0
set_option maxRecDepth 100000 in
set_option maxHeartbeats 4000000 in
theorem c_X10_goOn (l : Launch) (G : Gp) (A : Nat → Prop) (σ : St) (p1 : Int32) (p2 : Int32) (p3 : Int32) {σ' : St} (h : f_X10_goOn σ p1 p2 p3 = some σ') : Kv l yX10_goOn wsX10_goOn 3 G A [.ref (ad G 72), .int p1, .int p2, .int p3] σ σ' := by
  unfold f_X10_goOn at h
  refine r_start (ws := wsX10_goOn) (d := 3) (by decide) rfl [.ref (ad G 72), .int p1, .int p2, .int p3] (Nat.le_of_ble_eq_true rfl) ?_
  intro p e s m below meth c S hr hlocks hE hw ls hl
  have hl : lv_has ls 10 [(0, .ref (ad G 72)), (1, .int p1), (2, .int p2), (3, .int p3)] := hl
  obtain ⟨hx, hb, hml, hown, hts⟩ := id S
  refine lv_iconst (v := 0) hx hb dX10_goOn_0 (by decide) ?_
  refine lv_istore (lv' := [(4, .int 0), (0, .ref (ad G 72)), (1, .int p1), (2, .int p2), (3, .int p3)]) hx hb dX10_goOn_1 hl (by decide) rfl (fun ls hl => ?_)
  exact w_X10_goOn_3   S hr hlocks hE  10000 σ p1 p2 p3 0 h hw (lv_sub hl [1, 2, 3, 4, 0] rfl)


theorem mf90_X10_findWays : Cond.fieldLink RX10 90 "GasVoyagesModel" "whole" "[I" ∈ wsX10_findWays := by decide +kernel
set_option maxRecDepth 20000 in
theorem iw10_X10_findWays : ∀ w ∈ u_ws RX10 TX10 43, w ∈ wsX10_findWays := by decide +kernel
theorem mf93_X10_findWays : Cond.fieldLink RX10 93 "GasVoyagesModel" "broken" "[I" ∈ wsX10_findWays := by decide +kernel
theorem mf69_X10_findWays : Cond.fieldLink RX10 69 "GasVoyagesModel" "logCell" "[I" ∈ wsX10_findWays := by decide +kernel
theorem mf72_X10_findWays : Cond.fieldLink RX10 72 "GasVoyagesModel" "logLevel" "[I" ∈ wsX10_findWays := by decide +kernel
theorem mf16_X10_findWays : Cond.fieldLink RX10 16 "GasVoyagesModel" "kinds" "[I" ∈ wsX10_findWays := by decide +kernel
theorem mf66_X10_findWays : Cond.fieldLink RX10 66 "GasVoyagesModel" "entries" "[I" ∈ wsX10_findWays := by decide +kernel
theorem mf63_X10_findWays : Cond.fieldLink RX10 63 "GasVoyagesModel" "begun" "[I" ∈ wsX10_findWays := by decide +kernel
theorem mf188_X10_findWays : Cond.fieldLink RX10 188 "GasVoyagesModel" "wholeMany" "I" ∈ wsX10_findWays := by decide +kernel
theorem mf191_X10_findWays : Cond.fieldLink RX10 191 "GasVoyagesModel" "brokenMany" "I" ∈ wsX10_findWays := by decide +kernel
def f_X10_findWays_136 : Nat → St → Int32 → Option St
  | 0, _, _ => none
  | n + 1, σ, x3 => if 4608 ≤ x3 then (some σ) else (Option.bind (aL σ 97 4608 x3) fun v2 => bT (up σ 72 39 (f_X10_sum (σ.1 72 39) v2)) fun s3 => Option.bind (aL s3 98 4608 x3) fun v4 => bT (up s3 72 40 (f_X10_sum (s3.1 72 40) v4)) fun s5 => f_X10_findWays_136 n s5 (x3 + 1))
set_option maxRecDepth 100000 in
set_option maxHeartbeats 4000000 in
theorem w_X10_findWays_136 {p : Program} {l : Launch} {e : Env} {s : State} {m : MethodId} {args : Array Value} {below : List Frame} {meth : Method} {c : Code} {G : Gp} {A : Nat → Prop} (S : CallFix p m c cX10_findWays 4 s args wsX10_findWays RX10) (hr : meth.sig.returnType = none) (hlocks : meth.locks = false) (hE : Ev G A s) (n : Nat) (σ : St) (x3 : Int32) {σ' : St} (h : f_X10_findWays_136   n σ x3 = some σ') {H : Heap} {locs : List Loc} {ls : Array Slot} (hw : Ww G A σ s H locs) (hl : lv_has ls 4 [(0, .ref (ad G 72)), (3, .int x3)]) : W p l e (rmd 4) s m args below meth c H locs 0 0 (Qv below args s G A σ') (F0 m 136 ls []) := by
  obtain ⟨hx, hb, hml, hown, hts⟩ := id S
  induction n generalizing σ x3  σ' H locs ls with
  | zero => cases h
  | succ n ih =>
    unfold f_X10_findWays_136 at h
    refine lv_iload_n hx hb dX10_findWays_136 rfl (lv_at hl 1 rfl) ?_
    refine lv_sipush (v := 4608) hx hb dX10_findWays_137 (by decide) ?_
    refine lv_icmp_ge (tgt := 183) hx hb dX10_findWays_140 (by decide) (fun c1 => ?_) (fun c1 => ?_)
    · have h := if_t c1 h
      obtain rfl := Option.some.inj h
      exact r_vret S hr hlocks hw dX10_findWays_183
    · have h := if_f c1 h
      refine lv_aload_n hx hb dX10_findWays_143 rfl (lv_at hl 0 rfl) ?_
      refine lv_aload_n hx hb dX10_findWays_144 rfl (lv_at hl 0 rfl) ?_
      refine r_gi S hE hw 39 iw10_X10_findWays rfl rfl (by decide) (hts _ mf188_X10_findWays) dX10_findWays_145 ?_
      refine lv_aload_n hx hb dX10_findWays_148 rfl (lv_at hl 0 rfl) ?_
      refine r_gr S hE hw 35 97 iw10_X10_findWays rfl rfl (by decide) rfl (hts _ mf90_X10_findWays) dX10_findWays_149 ?_
      refine lv_iload_n hx hb dX10_findWays_152 rfl (lv_at hl 1 rfl) ?_
      obtain ⟨v2, gv2, h⟩ := oB_out h
      refine r_al S hE hw rfl rfl gv2 dX10_findWays_153 ?_
      refine r_ci (r_runS (As := [.int (σ.1 72 39), .int v2]) (rest := [.ref (ad G 72)]) S hE hw (c_X10_sum  l G A σ (σ.1 72 39) v2) (va_cwS 2 hts gX10_findWays_X10_sum rfl rfl rfl (by decide +kernel) ⟨Nat.le_of_ble_eq_true rfl, Nat.le_of_ble_eq_true rfl⟩) rfl hl.1 rfl (Nat.le_of_ble_eq_true rfl) ⟨Nat.zero_le _, Nat.zero_le _⟩ dX10_findWays_154) hw (fun H locs hw => ?_)
      obtain ⟨s3, gs3, h⟩ := bT_out h
      refine r_pi S hE hw 39 (f_X10_sum (σ.1 72 39) v2) iw10_X10_findWays tyX10 tyX10_ok nmX10 rfl rfl (by decide) (hts _ mf188_X10_findWays) rfl (ty := .int) (by decide +kernel) rfl rfl dX10_findWays_157 (fun H locs hw => ?_)
      rw [← gs3] at hw
      refine lv_aload_n hx hb dX10_findWays_160 rfl (lv_at hl 0 rfl) ?_
      refine lv_aload_n hx hb dX10_findWays_161 rfl (lv_at hl 0 rfl) ?_
      refine r_gi S hE hw 40 iw10_X10_findWays rfl rfl (by decide) (hts _ mf191_X10_findWays) dX10_findWays_162 ?_
      refine lv_aload_n hx hb dX10_findWays_165 rfl (lv_at hl 0 rfl) ?_
      refine r_gr S hE hw 36 98 iw10_X10_findWays rfl rfl (by decide) rfl (hts _ mf93_X10_findWays) dX10_findWays_166 ?_
      refine lv_iload_n hx hb dX10_findWays_169 rfl (lv_at hl 1 rfl) ?_
      obtain ⟨v4, gv4, h⟩ := oB_out h
      refine r_al S hE hw rfl rfl gv4 dX10_findWays_170 ?_
      refine r_ci (r_runS (As := [.int (s3.1 72 40), .int v4]) (rest := [.ref (ad G 72)]) S hE hw (c_X10_sum  l G A s3 (s3.1 72 40) v4) (va_cwS 2 hts gX10_findWays_X10_sum rfl rfl rfl (by decide +kernel) ⟨Nat.le_of_ble_eq_true rfl, Nat.le_of_ble_eq_true rfl⟩) rfl hl.1 rfl (Nat.le_of_ble_eq_true rfl) ⟨Nat.zero_le _, Nat.zero_le _⟩ dX10_findWays_171) hw (fun H locs hw => ?_)
      obtain ⟨s5, gs5, h⟩ := bT_out h
      refine r_pi S hE hw 40 (f_X10_sum (s3.1 72 40) v4) iw10_X10_findWays tyX10 tyX10_ok nmX10 rfl rfl (by decide) (hts _ mf191_X10_findWays) rfl (ty := .int) (by decide +kernel) rfl rfl dX10_findWays_174 (fun H locs hw => ?_)
      rw [← gs5] at hw
      refine lv_iinc (v := x3 + 1) (lv' := [(3, .int (x3 + 1)), (0, .ref (ad G 72))]) hx hb dX10_findWays_177 hl (k := 1) rfl rfl (by decide) rfl (fun ls hl => ?_)
      refine lv_goto (tgt := 136) hx hb dX10_findWays_180 (by decide) ?_
      exact ih s5 (x3 + 1) h hw (lv_sub hl [1, 0] rfl)

def f_X10_findWays_124 (σ : St) : Option St := bT (up σ 72 39 0) fun s1 => bT (up s1 72 40 0) fun s2 => f_X10_findWays_136 10000 s2 0
set_option maxRecDepth 100000 in
set_option maxHeartbeats 4000000 in
theorem w_X10_findWays_124 {p : Program} {l : Launch} {e : Env} {s : State} {m : MethodId} {args : Array Value} {below : List Frame} {meth : Method} {c : Code} {G : Gp} {A : Nat → Prop} (S : CallFix p m c cX10_findWays 4 s args wsX10_findWays RX10) (hr : meth.sig.returnType = none) (hlocks : meth.locks = false) (hE : Ev G A s) (σ : St) {σ' : St} (h : f_X10_findWays_124   σ  = some σ') {H : Heap} {locs : List Loc} {ls : Array Slot} (hw : Ww G A σ s H locs) (hl : lv_has ls 4 [(0, .ref (ad G 72))]) : W p l e (rmd 4) s m args below meth c H locs 0 0 (Qv below args s G A σ') (F0 m 124 ls []) := by
  obtain ⟨hx, hb, hml, hown, hts⟩ := id S
  unfold f_X10_findWays_124 at h
  refine lv_aload_n hx hb dX10_findWays_124 rfl (lv_at hl 0 rfl) ?_
  refine lv_iconst (v := 0) hx hb dX10_findWays_125 (by decide) ?_
  obtain ⟨s1, gs1, h⟩ := bT_out h
  refine r_pi S hE hw 39 0 iw10_X10_findWays tyX10 tyX10_ok nmX10 rfl rfl (by decide) (hts _ mf188_X10_findWays) rfl (ty := .int) (by decide +kernel) rfl rfl dX10_findWays_126 (fun H locs hw => ?_)
  rw [← gs1] at hw
  refine lv_aload_n hx hb dX10_findWays_129 rfl (lv_at hl 0 rfl) ?_
  refine lv_iconst (v := 0) hx hb dX10_findWays_130 (by decide) ?_
  obtain ⟨s2, gs2, h⟩ := bT_out h
  refine r_pi S hE hw 40 0 iw10_X10_findWays tyX10 tyX10_ok nmX10 rfl rfl (by decide) (hts _ mf191_X10_findWays) rfl (ty := .int) (by decide +kernel) rfl rfl dX10_findWays_131 (fun H locs hw => ?_)
  rw [← gs2] at hw
  refine lv_iconst (v := 0) hx hb dX10_findWays_134 (by decide) ?_
  refine lv_istore_n (lv' := [(3, .int 0), (0, .ref (ad G 72))]) hx hb dX10_findWays_135 rfl hl (by decide) rfl (fun ls hl => ?_)
  exact w_X10_findWays_136   S hr hlocks hE  10000 s2 0 h hw (lv_sub hl [1, 0] rfl)

def f_X10_findWays_89 : Nat → St → Int32 → Int32 → Option St
  | 0, _, _, _ => none
  | n + 1, σ, x1, x3 => Option.bind (aL σ 89 8 x1) fun v1 => if v1 ≤ x3 then (f_X10_findWays_124 σ) else (Option.bind (aL σ 88 8 x1) fun v3 => Option.bind (f_X10_goOn σ x1 x3 (((v3 + x3) - 1) - ((v3 + x3) - 1) / 24 * 24)) fun s4 => f_X10_findWays_89 n s4 x1 (x3 + 1))
set_option maxRecDepth 100000 in
set_option maxHeartbeats 4000000 in
theorem w_X10_findWays_89 {p : Program} {l : Launch} {e : Env} {s : State} {m : MethodId} {args : Array Value} {below : List Frame} {meth : Method} {c : Code} {G : Gp} {A : Nat → Prop} (S : CallFix p m c cX10_findWays 4 s args wsX10_findWays RX10) (hr : meth.sig.returnType = none) (hlocks : meth.locks = false) (hE : Ev G A s) (n : Nat) (σ : St) (x1 : Int32) (x3 : Int32) {σ' : St} (h : f_X10_findWays_89   n σ x1 x3 = some σ') {H : Heap} {locs : List Loc} {ls : Array Slot} (hw : Ww G A σ s H locs) (hl : lv_has ls 4 [(0, .ref (ad G 72)), (1, .int x1), (3, .int x3)]) : W p l e (rmd 4) s m args below meth c H locs 0 0 (Qv below args s G A σ') (F0 m 89 ls []) := by
  obtain ⟨hx, hb, hml, hown, hts⟩ := id S
  induction n generalizing σ x1 x3  σ' H locs ls with
  | zero => cases h
  | succ n ih =>
    unfold f_X10_findWays_89 at h
    refine lv_iload_n hx hb dX10_findWays_89 rfl (lv_at hl 2 rfl) ?_
    refine lv_aload_n hx hb dX10_findWays_90 rfl (lv_at hl 0 rfl) ?_
    refine r_gr S hE hw 19 89 iw10_X10_findWays rfl rfl (by decide) rfl (hts _ mf66_X10_findWays) dX10_findWays_91 ?_
    refine lv_iload_n hx hb dX10_findWays_94 rfl (lv_at hl 1 rfl) ?_
    obtain ⟨v1, gv1, h⟩ := oB_out h
    refine r_al S hE hw rfl rfl gv1 dX10_findWays_95 ?_
    refine lv_icmp_ge (tgt := 124) hx hb dX10_findWays_96 (by decide) (fun c2 => ?_) (fun c2 => ?_)
    · have h := if_t c2 h
      exact w_X10_findWays_124   S hr hlocks hE   σ  h hw (lv_sub hl [0] rfl)
    · have h := if_f c2 h
      refine lv_aload_n hx hb dX10_findWays_99 rfl (lv_at hl 0 rfl) ?_
      refine lv_iload_n hx hb dX10_findWays_100 rfl (lv_at hl 1 rfl) ?_
      refine lv_iload_n hx hb dX10_findWays_101 rfl (lv_at hl 2 rfl) ?_
      refine lv_aload_n hx hb dX10_findWays_102 rfl (lv_at hl 0 rfl) ?_
      refine r_gr S hE hw 18 88 iw10_X10_findWays rfl rfl (by decide) rfl (hts _ mf63_X10_findWays) dX10_findWays_103 ?_
      refine lv_iload_n hx hb dX10_findWays_106 rfl (lv_at hl 1 rfl) ?_
      obtain ⟨v3, gv3, h⟩ := oB_out h
      refine r_al S hE hw rfl rfl gv3 dX10_findWays_107 ?_
      refine lv_iload_n hx hb dX10_findWays_108 rfl (lv_at hl 2 rfl) ?_
      refine lv_iadd hx hb dX10_findWays_109 ?_
      refine lv_iconst (v := 1) hx hb dX10_findWays_110 (by decide) ?_
      refine lv_isub hx hb dX10_findWays_111 ?_
      refine lv_bipush (v := 24) hx hb dX10_findWays_112 (by decide) ?_
      refine lv_irem hx hb dX10_findWays_114 (by decide) ?_
      obtain ⟨s4, gs4, h⟩ := oB_out h
      refine r_cv (r_runV (k := 72) (ci := 10) (As := [.int x1, .int x3, .int (((v3 + x3) - 1) - ((v3 + x3) - 1) / 24 * 24)]) (rest := []) S hE hw (c_X10_goOn  l G A σ x1 x3 (((v3 + x3) - 1) - ((v3 + x3) - 1) / 24 * 24) gs4) (cwV 3 hts gX10_findWays_X10_goOn rfl rfl rfl (by decide +kernel) ⟨Nat.le_of_ble_eq_true rfl, Nat.le_of_ble_eq_true rfl⟩) rfl rfl (by decide) rfl hl.1 rfl (Nat.le_of_ble_eq_true rfl) ⟨Nat.zero_le _, Nat.zero_le _⟩ dX10_findWays_115) hw (fun H locs hw => ?_)
      refine lv_iinc (v := x3 + 1) (lv' := [(3, .int (x3 + 1)), (0, .ref (ad G 72)), (1, .int x1)]) hx hb dX10_findWays_118 hl (k := 2) rfl rfl (by decide) rfl (fun ls hl => ?_)
      refine lv_goto (tgt := 89) hx hb dX10_findWays_121 (by decide) ?_
      exact ih s4 x1 (x3 + 1) h hw (lv_sub hl [1, 2, 0] rfl)

def f_X10_findWays_29 (σ : St) (x1 : Int32) : Option St := Option.bind (aL σ 90 488 (61 * x1)) fun v1 => Option.bind (aL σ 91 488 (61 * x1)) fun v2 => Option.bind (aL σ 90 488 (61 * x1)) fun v3 => Option.bind (aL σ 73 576 v3) fun v4 => if v4 = 2 then (Option.bind (aS σ 98 4608 ((8 * v1) + v2) 1) fun s7 => f_X10_findWays_89 10000 s7 x1 1) else (Option.bind (aS σ 97 4608 ((8 * v1) + v2) 1) fun s6 => f_X10_findWays_89 10000 s6 x1 1)
set_option maxRecDepth 100000 in
set_option maxHeartbeats 4000000 in
theorem w_X10_findWays_29 {p : Program} {l : Launch} {e : Env} {s : State} {m : MethodId} {args : Array Value} {below : List Frame} {meth : Method} {c : Code} {G : Gp} {A : Nat → Prop} (S : CallFix p m c cX10_findWays 4 s args wsX10_findWays RX10) (hr : meth.sig.returnType = none) (hlocks : meth.locks = false) (hE : Ev G A s) (σ : St) (x1 : Int32) {σ' : St} (h : f_X10_findWays_29   σ x1 = some σ') {H : Heap} {locs : List Loc} {ls : Array Slot} (hw : Ww G A σ s H locs) (hl : lv_has ls 4 [(0, .ref (ad G 72)), (1, .int x1)]) : W p l e (rmd 4) s m args below meth c H locs 0 0 (Qv below args s G A σ') (F0 m 29 ls []) := by
  obtain ⟨hx, hb, hml, hown, hts⟩ := id S
  unfold f_X10_findWays_29 at h
  refine lv_bipush (v := 8) hx hb dX10_findWays_29 (by decide) ?_
  refine lv_aload_n hx hb dX10_findWays_31 rfl (lv_at hl 0 rfl) ?_
  refine r_gr S hE hw 20 90 iw10_X10_findWays rfl rfl (by decide) rfl (hts _ mf69_X10_findWays) dX10_findWays_32 ?_
  refine lv_bipush (v := 61) hx hb dX10_findWays_35 (by decide) ?_
  refine lv_iload_n hx hb dX10_findWays_37 rfl (lv_at hl 1 rfl) ?_
  refine lv_imul hx hb dX10_findWays_38 ?_
  obtain ⟨v1, gv1, h⟩ := oB_out h
  refine r_al S hE hw rfl rfl gv1 dX10_findWays_39 ?_
  refine lv_imul hx hb dX10_findWays_40 ?_
  refine lv_aload_n hx hb dX10_findWays_41 rfl (lv_at hl 0 rfl) ?_
  refine r_gr S hE hw 21 91 iw10_X10_findWays rfl rfl (by decide) rfl (hts _ mf72_X10_findWays) dX10_findWays_42 ?_
  refine lv_bipush (v := 61) hx hb dX10_findWays_45 (by decide) ?_
  refine lv_iload_n hx hb dX10_findWays_47 rfl (lv_at hl 1 rfl) ?_
  refine lv_imul hx hb dX10_findWays_48 ?_
  obtain ⟨v2, gv2, h⟩ := oB_out h
  refine r_al S hE hw rfl rfl gv2 dX10_findWays_49 ?_
  refine lv_iadd hx hb dX10_findWays_50 ?_
  refine lv_istore_n (lv' := [(2, .int ((8 * v1) + v2)), (0, .ref (ad G 72)), (1, .int x1)]) hx hb dX10_findWays_51 rfl hl (by decide) rfl (fun ls hl => ?_)
  refine lv_aload_n hx hb dX10_findWays_52 rfl (lv_at hl 1 rfl) ?_
  refine r_gr S hE hw 2 73 iw10_X10_findWays rfl rfl (by decide) rfl (hts _ mf16_X10_findWays) dX10_findWays_53 ?_
  refine lv_aload_n hx hb dX10_findWays_56 rfl (lv_at hl 1 rfl) ?_
  refine r_gr S hE hw 20 90 iw10_X10_findWays rfl rfl (by decide) rfl (hts _ mf69_X10_findWays) dX10_findWays_57 ?_
  refine lv_bipush (v := 61) hx hb dX10_findWays_60 (by decide) ?_
  refine lv_iload_n hx hb dX10_findWays_62 rfl (lv_at hl 2 rfl) ?_
  refine lv_imul hx hb dX10_findWays_63 ?_
  obtain ⟨v3, gv3, h⟩ := oB_out h
  refine r_al S hE hw rfl rfl gv3 dX10_findWays_64 ?_
  obtain ⟨v4, gv4, h⟩ := oB_out h
  refine r_al S hE hw rfl rfl gv4 dX10_findWays_65 ?_
  refine lv_iconst (v := 2) hx hb dX10_findWays_66 (by decide) ?_
  refine lv_icmp_ne (tgt := 80) hx hb dX10_findWays_67 (by decide) (fun c5 => ?_) (fun c5 => ?_)
  · have h := if_f c5 h
    refine lv_aload_n hx hb dX10_findWays_80 rfl (lv_at hl 1 rfl) ?_
    refine r_gr S hE hw 35 97 iw10_X10_findWays rfl rfl (by decide) rfl (hts _ mf90_X10_findWays) dX10_findWays_81 ?_
    refine lv_iload_n hx hb dX10_findWays_84 rfl (lv_at hl 0 rfl) ?_
    refine lv_iconst (v := 1) hx hb dX10_findWays_85 (by decide) ?_
    obtain ⟨s6, gs6, h⟩ := oB_out h
    refine r_as S hE hw rfl rfl gs6 dX10_findWays_86 (fun H locs hw => ?_)
    refine lv_iconst (v := 1) hx hb dX10_findWays_87 (by decide) ?_
    refine lv_istore_n (lv' := [(3, .int 1), (2, .int ((8 * v1) + v2)), (0, .ref (ad G 72)), (1, .int x1)]) hx hb dX10_findWays_88 rfl hl (by decide) rfl (fun ls hl => ?_)
    exact w_X10_findWays_89   S hr hlocks hE  10000 s6 x1 1 h hw (lv_sub hl [2, 3, 0] rfl)
  · have h := if_t c5 h
    refine lv_aload_n hx hb dX10_findWays_70 rfl (lv_at hl 1 rfl) ?_
    refine r_gr S hE hw 36 98 iw10_X10_findWays rfl rfl (by decide) rfl (hts _ mf93_X10_findWays) dX10_findWays_71 ?_
    refine lv_iload_n hx hb dX10_findWays_74 rfl (lv_at hl 0 rfl) ?_
    refine lv_iconst (v := 1) hx hb dX10_findWays_75 (by decide) ?_
    obtain ⟨s7, gs7, h⟩ := oB_out h
    refine r_as S hE hw rfl rfl gs7 dX10_findWays_76 (fun H locs hw => ?_)
    refine lv_goto (tgt := 87) hx hb dX10_findWays_77 (by decide) ?_
    refine lv_iconst (v := 1) hx hb dX10_findWays_87 (by decide) ?_
    refine lv_istore_n (lv' := [(3, .int 1), (2, .int ((8 * v1) + v2)), (0, .ref (ad G 72)), (1, .int x1)]) hx hb dX10_findWays_88 rfl hl (by decide) rfl (fun ls hl => ?_)
    exact w_X10_findWays_89   S hr hlocks hE  10000 s7 x1 1 h hw (lv_sub hl [2, 3, 0] rfl)

def f_X10_findWays_2 : Nat → St → Int32 → Int32 → Option St
  | 0, _, _, _ => none
  | n + 1, σ, x1, x2 => if 4608 ≤ x2 then (f_X10_findWays_29 σ x1) else (Option.bind (aS σ 97 4608 x2 0) fun s2 => Option.bind (aS s2 98 4608 x2 0) fun s3 => f_X10_findWays_2 n s3 x1 (x2 + 1))
set_option maxRecDepth 100000 in
set_option maxHeartbeats 4000000 in
theorem w_X10_findWays_2 {p : Program} {l : Launch} {e : Env} {s : State} {m : MethodId} {args : Array Value} {below : List Frame} {meth : Method} {c : Code} {G : Gp} {A : Nat → Prop} (S : CallFix p m c cX10_findWays 4 s args wsX10_findWays RX10) (hr : meth.sig.returnType = none) (hlocks : meth.locks = false) (hE : Ev G A s) (n : Nat) (σ : St) (x1 : Int32) (x2 : Int32) {σ' : St} (h : f_X10_findWays_2   n σ x1 x2 = some σ') {H : Heap} {locs : List Loc} {ls : Array Slot} (hw : Ww G A σ s H locs) (hl : lv_has ls 4 [(0, .ref (ad G 72)), (1, .int x1), (2, .int x2)]) : W p l e (rmd 4) s m args below meth c H locs 0 0 (Qv below args s G A σ') (F0 m 2 ls []) := by
  obtain ⟨hx, hb, hml, hown, hts⟩ := id S
  induction n generalizing σ x1 x2  σ' H locs ls with
  | zero => cases h
  | succ n ih =>
    unfold f_X10_findWays_2 at h
    refine lv_iload_n hx hb dX10_findWays_2 rfl (lv_at hl 2 rfl) ?_
    refine lv_sipush (v := 4608) hx hb dX10_findWays_3 (by decide) ?_
    refine lv_icmp_ge (tgt := 29) hx hb dX10_findWays_6 (by decide) (fun c1 => ?_) (fun c1 => ?_)
    · have h := if_t c1 h
      exact w_X10_findWays_29   S hr hlocks hE   σ x1 h hw (lv_sub hl [0, 1] rfl)
    · have h := if_f c1 h
      refine lv_aload_n hx hb dX10_findWays_9 rfl (lv_at hl 0 rfl) ?_
      refine r_gr S hE hw 35 97 iw10_X10_findWays rfl rfl (by decide) rfl (hts _ mf90_X10_findWays) dX10_findWays_10 ?_
      refine lv_iload_n hx hb dX10_findWays_13 rfl (lv_at hl 2 rfl) ?_
      refine lv_iconst (v := 0) hx hb dX10_findWays_14 (by decide) ?_
      obtain ⟨s2, gs2, h⟩ := oB_out h
      refine r_as S hE hw rfl rfl gs2 dX10_findWays_15 (fun H locs hw => ?_)
      refine lv_aload_n hx hb dX10_findWays_16 rfl (lv_at hl 0 rfl) ?_
      refine r_gr S hE hw 36 98 iw10_X10_findWays rfl rfl (by decide) rfl (hts _ mf93_X10_findWays) dX10_findWays_17 ?_
      refine lv_iload_n hx hb dX10_findWays_20 rfl (lv_at hl 2 rfl) ?_
      refine lv_iconst (v := 0) hx hb dX10_findWays_21 (by decide) ?_
      obtain ⟨s3, gs3, h⟩ := oB_out h
      refine r_as S hE hw rfl rfl gs3 dX10_findWays_22 (fun H locs hw => ?_)
      refine lv_iinc (v := x2 + 1) (lv' := [(2, .int (x2 + 1)), (0, .ref (ad G 72)), (1, .int x1)]) hx hb dX10_findWays_23 hl (k := 2) rfl rfl (by decide) rfl (fun ls hl => ?_)
      refine lv_goto (tgt := 2) hx hb dX10_findWays_26 (by decide) ?_
      exact ih s3 x1 (x2 + 1) h hw (lv_sub hl [1, 2, 0] rfl)

def f_X10_findWays (σ : St) (p1 : Int32) : Option St := f_X10_findWays_2 10000 σ p1 0
set_option maxRecDepth 100000 in
set_option maxHeartbeats 4000000 in
theorem c_X10_findWays (l : Launch) (G : Gp) (A : Nat → Prop) (σ : St) (p1 : Int32) {σ' : St} (h : f_X10_findWays σ p1 = some σ') : Kv l yX10_findWays wsX10_findWays 4 G A [.ref (ad G 72), .int p1] σ σ' := by
  unfold f_X10_findWays at h
  refine r_start (ws := wsX10_findWays) (d := 4) (by decide) rfl [.ref (ad G 72), .int p1] (Nat.le_of_ble_eq_true rfl) ?_
  intro p e s m below meth c S hr hlocks hE hw ls hl
  have hl : lv_has ls 4 [(0, .ref (ad G 72)), (1, .int p1)] := hl
  obtain ⟨hx, hb, hml, hown, hts⟩ := id S
  refine lv_iconst (v := 0) hx hb dX10_findWays_0 (by decide) ?_
  refine lv_istore_n (lv' := [(2, .int 0), (0, .ref (ad G 72)), (1, .int p1)]) hx hb dX10_findWays_1 rfl hl (by decide) rfl (fun ls hl => ?_)
  exact w_X10_findWays_2   S hr hlocks hE  10000 σ p1 0 h hw (lv_sub hl [1, 2, 0] rfl)


theorem mf188_X10_judged : Cond.fieldLink RX10 188 "GasVoyagesModel" "wholeMany" "I" ∈ wsX10_judged := by decide +kernel
set_option maxRecDepth 20000 in
theorem iw10_X10_judged : ∀ w ∈ u_ws RX10 TX10 43, w ∈ wsX10_judged := by decide +kernel
theorem mf191_X10_judged : Cond.fieldLink RX10 191 "GasVoyagesModel" "brokenMany" "I" ∈ wsX10_judged := by decide +kernel
def f_X10_judged_23 (σ : St) : Option (Int32 × St) := if (σ.1 72 39) = 0 then (if (σ.1 72 40) ≤ 0 then (some (1, σ)) else (some (2, σ))) else (some (1, σ))
set_option maxRecDepth 100000 in
set_option maxHeartbeats 4000000 in
theorem w_X10_judged_23 {p : Program} {l : Launch} {e : Env} {s : State} {m : MethodId} {args : Array Value} {below : List Frame} {meth : Method} {c : Code} {G : Gp} {A : Nat → Prop} (S : CallFix p m c cX10_judged 2 s args wsX10_judged RX10) (hr : meth.sig.returnType = (some .int)) (hlocks : meth.locks = false) (hE : Ev G A s) (σ : St) {r : Int32} {σ' : St} (h : f_X10_judged_23   σ  = some (r, σ')) {H : Heap} {locs : List Loc} {ls : Array Slot} (hw : Ww G A σ s H locs) (hl : lv_has ls 2 [(0, .ref (ad G 72))]) : W p l e (rmd 5) s m args below meth c H locs 0 0 (Qi below args s G A r σ') (F0 m 23 ls []) := by
  obtain ⟨hx, hb, hml, hown, hts⟩ := id S
  unfold f_X10_judged_23 at h
  refine lv_aload_n hx hb dX10_judged_23 rfl (lv_at hl 0 rfl) ?_
  refine r_gi S hE hw 39 iw10_X10_judged rfl rfl (by decide) (hts _ mf188_X10_judged) dX10_judged_24 ?_
  refine lv_if_ne (tgt := 41) hx hb dX10_judged_27 (by decide) (fun c1 => ?_) (fun c1 => ?_)
  · have h := if_f c1 h
    refine lv_iconst (v := 1) hx hb dX10_judged_41 (by decide) ?_
    obtain ⟨rfl, rfl⟩ := rt2 h
    exact r_iret S hr hlocks hw dX10_judged_42
  · have h := if_t c1 h
    refine lv_aload_n hx hb dX10_judged_30 rfl (lv_at hl 0 rfl) ?_
    refine r_gi S hE hw 40 iw10_X10_judged rfl rfl (by decide) (hts _ mf191_X10_judged) dX10_judged_31 ?_
    refine lv_if_le (tgt := 41) hx hb dX10_judged_34 (by decide) (fun c2 => ?_) (fun c2 => ?_)
    · have h := if_t c2 h
      refine lv_iconst (v := 1) hx hb dX10_judged_41 (by decide) ?_
      obtain ⟨rfl, rfl⟩ := rt2 h
      exact r_iret S hr hlocks hw dX10_judged_42
    · have h := if_f c2 h
      refine lv_iconst (v := 2) hx hb dX10_judged_37 (by decide) ?_
      refine lv_goto (tgt := 42) hx hb dX10_judged_38 (by decide) ?_
      obtain ⟨rfl, rfl⟩ := rt2 h
      exact r_iret S hr hlocks hw dX10_judged_42

def f_X10_judged (σ : St) (p1 : Int32) : Option (Int32 × St) := Option.bind (f_X10_findWays σ p1) fun s1 => if (s1.1 72 39) ≤ 0 then (f_X10_judged_23 s1) else (if (s1.1 72 40) = 0 then (some (0, s1)) else (f_X10_judged_23 s1))
set_option maxRecDepth 100000 in
set_option maxHeartbeats 4000000 in
theorem c_X10_judged (l : Launch) (G : Gp) (A : Nat → Prop) (σ : St) (p1 : Int32) {r : Int32} {σ' : St} (h : f_X10_judged σ p1 = some (r, σ')) : Ki l yX10_judged wsX10_judged 5 G A [.ref (ad G 72), .int p1] σ r σ' := by
  unfold f_X10_judged at h
  refine r_start (ws := wsX10_judged) (d := 5) (by decide) rfl [.ref (ad G 72), .int p1] (Nat.le_of_ble_eq_true rfl) ?_
  intro p e s m below meth c S hr hlocks hE hw ls hl
  have hl : lv_has ls 2 [(0, .ref (ad G 72)), (1, .int p1)] := hl
  obtain ⟨hx, hb, hml, hown, hts⟩ := id S
  refine lv_aload_n hx hb dX10_judged_0 rfl (lv_at hl 0 rfl) ?_
  refine lv_iload_n hx hb dX10_judged_1 rfl (lv_at hl 1 rfl) ?_
  obtain ⟨s1, gs1, h⟩ := oB_out h
  refine r_cv (r_runV (k := 72) (ci := 10) (As := [.int p1]) (rest := []) S hE hw (c_X10_findWays  l G A σ p1 gs1) (cwV 1 hts gX10_judged_X10_findWays rfl rfl rfl (by decide +kernel) ⟨Nat.le_of_ble_eq_true rfl, Nat.le_of_ble_eq_true rfl⟩) rfl rfl (by decide) rfl hl.1 rfl (Nat.le_of_ble_eq_true rfl) ⟨Nat.zero_le _, Nat.zero_le _⟩ dX10_judged_2) hw (fun H locs hw => ?_)
  refine lv_aload_n hx hb dX10_judged_5 rfl (lv_at hl 0 rfl) ?_
  refine r_gi S hE hw 39 iw10_X10_judged rfl rfl (by decide) (hts _ mf188_X10_judged) dX10_judged_6 ?_
  refine lv_if_le (tgt := 23) hx hb dX10_judged_9 (by decide) (fun c2 => ?_) (fun c2 => ?_)
  · have h := if_t c2 h
    exact w_X10_judged_23   S hr hlocks hE   s1  h hw (lv_sub hl [0] rfl)
  · have h := if_f c2 h
    refine lv_aload_n hx hb dX10_judged_12 rfl (lv_at hl 0 rfl) ?_
    refine r_gi S hE hw 40 iw10_X10_judged rfl rfl (by decide) (hts _ mf191_X10_judged) dX10_judged_13 ?_
    refine lv_if_ne (tgt := 23) hx hb dX10_judged_16 (by decide) (fun c3 => ?_) (fun c3 => ?_)
    · have h := if_f c3 h
      exact w_X10_judged_23   S hr hlocks hE   s1  h hw (lv_sub hl [0] rfl)
    · have h := if_t c3 h
      refine lv_iconst (v := 0) hx hb dX10_judged_19 (by decide) ?_
      refine lv_goto (tgt := 42) hx hb dX10_judged_20 (by decide) ?_
      obtain ⟨rfl, rfl⟩ := rt2 h
      exact r_iret S hr hlocks hw dX10_judged_42


def f_X10_judge (σ : St) (p1 : Int32) : Option (Int32 × St) := if (f_X10_isFlight σ p1) = 0 then (some ((-2), σ)) else (oB2 (f_X10_judged σ p1) fun v3 s4 => some (v3, s4))
set_option maxRecDepth 100000 in
set_option maxHeartbeats 4000000 in
theorem c_X10_judge (l : Launch) (G : Gp) (A : Nat → Prop) (σ : St) (p1 : Int32) {r : Int32} {σ' : St} (h : f_X10_judge σ p1 = some (r, σ')) : Ki l yX10_judge wsX10_judge 6 G A [.ref (ad G 72), .int p1] σ r σ' := by
  unfold f_X10_judge at h
  refine r_start (ws := wsX10_judge) (d := 6) (by decide) rfl [.ref (ad G 72), .int p1] (Nat.le_of_ble_eq_true rfl) ?_
  intro p e s m below meth c S hr hlocks hE hw ls hl
  have hl : lv_has ls 2 [(0, .ref (ad G 72)), (1, .int p1)] := hl
  obtain ⟨hx, hb, hml, hown, hts⟩ := id S
  refine lv_aload_n hx hb dX10_judge_0 rfl (lv_at hl 0 rfl) ?_
  refine lv_iload_n hx hb dX10_judge_1 rfl (lv_at hl 1 rfl) ?_
  refine r_cz (r_runV (k := 72) (ci := 10) (As := [.int p1]) (rest := []) S hE hw (c_X10_isFlight  l G A σ p1) (cwV 1 hts gX10_judge_X10_isFlight rfl rfl rfl (by decide +kernel) ⟨Nat.le_of_ble_eq_true rfl, Nat.le_of_ble_eq_true rfl⟩) rfl rfl (by decide) rfl hl.1 rfl (Nat.le_of_ble_eq_true rfl) ⟨Nat.zero_le _, Nat.zero_le _⟩ dX10_judge_2) hw (fun H locs hw hb1 => ?_)
  refine lv_if_eq (tgt := 16) hx hb dX10_judge_5 (by decide) (fun c2 => ?_) (fun c2 => ?_)
  · have h := if_t c2 h
    refine lv_bipush (v := (-2)) hx hb dX10_judge_16 (by decide) ?_
    obtain ⟨rfl, rfl⟩ := rt2 h
    exact r_iret S hr hlocks hw dX10_judge_18
  · have h := if_f c2 h
    refine lv_aload_n hx hb dX10_judge_8 rfl (lv_at hl 0 rfl) ?_
    refine lv_iload_n hx hb dX10_judge_9 rfl (lv_at hl 1 rfl) ?_
    obtain ⟨v3, s4, gv3, h⟩ := oB2_out h
    refine r_ci (r_runV (k := 72) (ci := 10) (As := [.int p1]) (rest := []) S hE hw (c_X10_judged  l G A σ p1 gv3) (cwV 1 hts gX10_judge_X10_judged rfl rfl rfl (by decide +kernel) ⟨Nat.le_of_ble_eq_true rfl, Nat.le_of_ble_eq_true rfl⟩) rfl rfl (by decide) rfl hl.1 rfl (Nat.le_of_ble_eq_true rfl) ⟨Nat.zero_le _, Nat.zero_le _⟩ dX10_judge_10) hw (fun H locs hw => ?_)
    refine lv_goto (tgt := 18) hx hb dX10_judge_13 (by decide) ?_
    obtain ⟨rfl, rfl⟩ := rt2 h
    exact r_iret S hr hlocks hw dX10_judge_18


theorem mf188_X10_ways : Cond.fieldLink RX10 188 "GasVoyagesModel" "wholeMany" "I" ∈ wsX10_ways := by decide +kernel
set_option maxRecDepth 20000 in
theorem iw10_X10_ways : ∀ w ∈ u_ws RX10 TX10 43, w ∈ wsX10_ways := by decide +kernel
theorem mf191_X10_ways : Cond.fieldLink RX10 191 "GasVoyagesModel" "brokenMany" "I" ∈ wsX10_ways := by decide +kernel
def f_X10_ways (σ : St) (p1 : Int32) (p2 : Int32) : Option (Int32 × St) := if (f_X10_isFlight σ p1) = 0 then (some ((-2), σ)) else (Option.bind (f_X10_findWays σ p1) fun s3 => if p2 = 0 then (some (f_X10_sum (s3.1 72 39) (s3.1 72 40), s3)) else (some (s3.1 72 40, s3)))
set_option maxRecDepth 100000 in
set_option maxHeartbeats 4000000 in
theorem c_X10_ways (l : Launch) (G : Gp) (A : Nat → Prop) (σ : St) (p1 : Int32) (p2 : Int32) {r : Int32} {σ' : St} (h : f_X10_ways σ p1 p2 = some (r, σ')) : Ki l yX10_ways wsX10_ways 5 G A [.ref (ad G 72), .int p1, .int p2] σ r σ' := by
  unfold f_X10_ways at h
  refine r_start (ws := wsX10_ways) (d := 5) (by decide) rfl [.ref (ad G 72), .int p1, .int p2] (Nat.le_of_ble_eq_true rfl) ?_
  intro p e s m below meth c S hr hlocks hE hw ls hl
  have hl : lv_has ls 3 [(0, .ref (ad G 72)), (1, .int p1), (2, .int p2)] := hl
  obtain ⟨hx, hb, hml, hown, hts⟩ := id S
  refine lv_aload_n hx hb dX10_ways_0 rfl (lv_at hl 0 rfl) ?_
  refine lv_iload_n hx hb dX10_ways_1 rfl (lv_at hl 1 rfl) ?_
  refine r_cz (r_runV (k := 72) (ci := 10) (As := [.int p1]) (rest := []) S hE hw (c_X10_isFlight  l G A σ p1) (cwV 1 hts gX10_ways_X10_isFlight rfl rfl rfl (by decide +kernel) ⟨Nat.le_of_ble_eq_true rfl, Nat.le_of_ble_eq_true rfl⟩) rfl rfl (by decide) rfl hl.1 rfl (Nat.le_of_ble_eq_true rfl) ⟨Nat.zero_le _, Nat.zero_le _⟩ dX10_ways_2) hw (fun H locs hw hb1 => ?_)
  refine lv_if_ne (tgt := 11) hx hb dX10_ways_5 (by decide) (fun c2 => ?_) (fun c2 => ?_)
  · have h := if_f c2 h
    refine lv_aload_n hx hb dX10_ways_11 rfl (lv_at hl 0 rfl) ?_
    refine lv_iload_n hx hb dX10_ways_12 rfl (lv_at hl 1 rfl) ?_
    obtain ⟨s3, gs3, h⟩ := oB_out h
    refine r_cv (r_runV (k := 72) (ci := 10) (As := [.int p1]) (rest := []) S hE hw (c_X10_findWays  l G A σ p1 gs3) (cwV 1 hts gX10_ways_X10_findWays rfl rfl rfl (by decide +kernel) ⟨Nat.le_of_ble_eq_true rfl, Nat.le_of_ble_eq_true rfl⟩) rfl rfl (by decide) rfl hl.1 rfl (Nat.le_of_ble_eq_true rfl) ⟨Nat.zero_le _, Nat.zero_le _⟩ dX10_ways_13) hw (fun H locs hw => ?_)
    refine lv_iload_n hx hb dX10_ways_16 rfl (lv_at hl 2 rfl) ?_
    refine lv_if_eq (tgt := 27) hx hb dX10_ways_17 (by decide) (fun c4 => ?_) (fun c4 => ?_)
    · have h := if_t c4 h
      refine lv_aload_n hx hb dX10_ways_27 rfl (lv_at hl 0 rfl) ?_
      refine r_gi S hE hw 39 iw10_X10_ways rfl rfl (by decide) (hts _ mf188_X10_ways) dX10_ways_28 ?_
      refine lv_aload_n hx hb dX10_ways_31 rfl (lv_at hl 0 rfl) ?_
      refine r_gi S hE hw 40 iw10_X10_ways rfl rfl (by decide) (hts _ mf191_X10_ways) dX10_ways_32 ?_
      refine r_ci (r_runS (As := [.int (s3.1 72 39), .int (s3.1 72 40)]) (rest := []) S hE hw (c_X10_sum  l G A s3 (s3.1 72 39) (s3.1 72 40)) (va_cwS 2 hts gX10_ways_X10_sum rfl rfl rfl (by decide +kernel) ⟨Nat.le_of_ble_eq_true rfl, Nat.le_of_ble_eq_true rfl⟩) rfl hl.1 rfl (Nat.le_of_ble_eq_true rfl) ⟨Nat.zero_le _, Nat.zero_le _⟩ dX10_ways_35) hw (fun H locs hw => ?_)
      obtain ⟨rfl, rfl⟩ := rt2 h
      exact r_iret S hr hlocks hw dX10_ways_38
    · have h := if_f c4 h
      refine lv_aload_n hx hb dX10_ways_20 rfl (lv_at hl 0 rfl) ?_
      refine r_gi S hE hw 40 iw10_X10_ways rfl rfl (by decide) (hts _ mf191_X10_ways) dX10_ways_21 ?_
      refine lv_goto (tgt := 38) hx hb dX10_ways_24 (by decide) ?_
      obtain ⟨rfl, rfl⟩ := rt2 h
      exact r_iret S hr hlocks hw dX10_ways_38
  · have h := if_t c2 h
    refine lv_bipush (v := (-2)) hx hb dX10_ways_8 (by decide) ?_
    obtain ⟨rfl, rfl⟩ := rt2 h
    exact r_iret S hr hlocks hw dX10_ways_10


theorem mf16_X10_chaser : Cond.fieldLink RX10 16 "GasVoyagesModel" "kinds" "[I" ∈ wsX10_chaser := by decide +kernel
set_option maxRecDepth 20000 in
theorem iw10_X10_chaser : ∀ w ∈ u_ws RX10 TX10 43, w ∈ wsX10_chaser := by decide +kernel
theorem mf115_X10_chaser : Cond.fieldLink RX10 115 "GasVoyagesModel" "chasers" "I" ∈ wsX10_chaser := by decide +kernel
theorem mf78_X10_chaser : Cond.fieldLink RX10 78 "GasVoyagesModel" "cx" "[I" ∈ wsX10_chaser := by decide +kernel
theorem mf81_X10_chaser : Cond.fieldLink RX10 81 "GasVoyagesModel" "cy" "[I" ∈ wsX10_chaser := by decide +kernel
theorem mf84_X10_chaser : Cond.fieldLink RX10 84 "GasVoyagesModel" "pace" "[I" ∈ wsX10_chaser := by decide +kernel
def f_X10_chaser (σ : St) (p1 : Int32) (p2 : Int32) (p3 : Int32) : Option (Int32 × St) := if (f_X10_isCell σ p1 p2) = 0 then (some ((-2), σ)) else (if (f_X10_in p3 1 5) = 0 then (some ((-2), σ)) else (Option.bind (aL σ 73 576 ((24 * p2) + p1)) fun v5 => if v5 = 1 then (some ((-3), σ)) else (if (σ.1 72 23) = 4 then (some ((-4), σ)) else (Option.bind (aS σ 93 4 (σ.1 72 23) p1) fun s8 => Option.bind (aS s8 94 4 (s8.1 72 23) p2) fun s9 => Option.bind (aS s9 95 4 (s9.1 72 23) p3) fun s10 => bT (up s10 72 23 ((s10.1 72 23) + 1)) fun s11 => some ((s11.1 72 23) - 1, s11)))))
set_option maxRecDepth 100000 in
set_option maxHeartbeats 4000000 in
theorem c_X10_chaser (l : Launch) (G : Gp) (A : Nat → Prop) (σ : St) (p1 : Int32) (p2 : Int32) (p3 : Int32) {r : Int32} {σ' : St} (h : f_X10_chaser σ p1 p2 p3 = some (r, σ')) : Ki l yX10_chaser wsX10_chaser 2 G A [.ref (ad G 72), .int p1, .int p2, .int p3] σ r σ' := by
  unfold f_X10_chaser at h
  refine r_start (ws := wsX10_chaser) (d := 2) (by decide) rfl [.ref (ad G 72), .int p1, .int p2, .int p3] (Nat.le_of_ble_eq_true rfl) ?_
  intro p e s m below meth c S hr hlocks hE hw ls hl
  have hl : lv_has ls 4 [(0, .ref (ad G 72)), (1, .int p1), (2, .int p2), (3, .int p3)] := hl
  obtain ⟨hx, hb, hml, hown, hts⟩ := id S
  refine lv_aload_n hx hb dX10_chaser_0 rfl (lv_at hl 0 rfl) ?_
  refine lv_iload_n hx hb dX10_chaser_1 rfl (lv_at hl 1 rfl) ?_
  refine lv_iload_n hx hb dX10_chaser_2 rfl (lv_at hl 2 rfl) ?_
  refine r_cz (r_runV (k := 72) (ci := 10) (As := [.int p1, .int p2]) (rest := []) S hE hw (c_X10_isCell  l G A σ p1 p2) (cwV 2 hts gX10_chaser_X10_isCell rfl rfl rfl (by decide +kernel) ⟨Nat.le_of_ble_eq_true rfl, Nat.le_of_ble_eq_true rfl⟩) rfl rfl (by decide) rfl hl.1 rfl (Nat.le_of_ble_eq_true rfl) ⟨Nat.zero_le _, Nat.zero_le _⟩ dX10_chaser_3) hw (fun H locs hw hb1 => ?_)
  refine lv_if_eq (tgt := 18) hx hb dX10_chaser_6 (by decide) (fun c2 => ?_) (fun c2 => ?_)
  · have h := if_t c2 h
    refine lv_bipush (v := (-2)) hx hb dX10_chaser_18 (by decide) ?_
    obtain ⟨rfl, rfl⟩ := rt2 h
    exact r_iret S hr hlocks hw dX10_chaser_20
  · have h := if_f c2 h
    refine lv_iload_n hx hb dX10_chaser_9 rfl (lv_at hl 3 rfl) ?_
    refine lv_iconst (v := 1) hx hb dX10_chaser_10 (by decide) ?_
    refine lv_iconst (v := 5) hx hb dX10_chaser_11 (by decide) ?_
    refine r_cz (r_runS (As := [.int p3, .int 1, .int 5]) (rest := []) S hE hw (c_X10_in  l G A σ p3 1 5) (va_cwS 3 hts gX10_chaser_X10_in rfl rfl rfl (by decide +kernel) ⟨Nat.le_of_ble_eq_true rfl, Nat.le_of_ble_eq_true rfl⟩) rfl hl.1 rfl (Nat.le_of_ble_eq_true rfl) ⟨Nat.zero_le _, Nat.zero_le _⟩ dX10_chaser_12) hw (fun H locs hw hb3 => ?_)
    refine lv_if_ne (tgt := 21) hx hb dX10_chaser_15 (by decide) (fun c4 => ?_) (fun c4 => ?_)
    · have h := if_f c4 h
      refine lv_aload_n hx hb dX10_chaser_21 rfl (lv_at hl 0 rfl) ?_
      refine r_gr S hE hw 2 73 iw10_X10_chaser rfl rfl (by decide) rfl (hts _ mf16_X10_chaser) dX10_chaser_22 ?_
      refine lv_bipush (v := 24) hx hb dX10_chaser_25 (by decide) ?_
      refine lv_iload_n hx hb dX10_chaser_27 rfl (lv_at hl 2 rfl) ?_
      refine lv_imul hx hb dX10_chaser_28 ?_
      refine lv_iload_n hx hb dX10_chaser_29 rfl (lv_at hl 1 rfl) ?_
      refine lv_iadd hx hb dX10_chaser_30 ?_
      obtain ⟨v5, gv5, h⟩ := oB_out h
      refine r_al S hE hw rfl rfl gv5 dX10_chaser_31 ?_
      refine lv_iconst (v := 1) hx hb dX10_chaser_32 (by decide) ?_
      refine lv_icmp_ne (tgt := 39) hx hb dX10_chaser_33 (by decide) (fun c6 => ?_) (fun c6 => ?_)
      · have h := if_f c6 h
        refine lv_aload_n hx hb dX10_chaser_39 rfl (lv_at hl 0 rfl) ?_
        refine r_gi S hE hw 23 iw10_X10_chaser rfl rfl (by decide) (hts _ mf115_X10_chaser) dX10_chaser_40 ?_
        refine lv_iconst (v := 4) hx hb dX10_chaser_43 (by decide) ?_
        refine lv_icmp_ne (tgt := 50) hx hb dX10_chaser_44 (by decide) (fun c7 => ?_) (fun c7 => ?_)
        · have h := if_f c7 h
          refine lv_aload_n hx hb dX10_chaser_50 rfl (lv_at hl 0 rfl) ?_
          refine r_gr S hE hw 24 93 iw10_X10_chaser rfl rfl (by decide) rfl (hts _ mf78_X10_chaser) dX10_chaser_51 ?_
          refine lv_aload_n hx hb dX10_chaser_54 rfl (lv_at hl 0 rfl) ?_
          refine r_gi S hE hw 23 iw10_X10_chaser rfl rfl (by decide) (hts _ mf115_X10_chaser) dX10_chaser_55 ?_
          refine lv_iload_n hx hb dX10_chaser_58 rfl (lv_at hl 1 rfl) ?_
          obtain ⟨s8, gs8, h⟩ := oB_out h
          refine r_as S hE hw rfl rfl gs8 dX10_chaser_59 (fun H locs hw => ?_)
          refine lv_aload_n hx hb dX10_chaser_60 rfl (lv_at hl 0 rfl) ?_
          refine r_gr S hE hw 25 94 iw10_X10_chaser rfl rfl (by decide) rfl (hts _ mf81_X10_chaser) dX10_chaser_61 ?_
          refine lv_aload_n hx hb dX10_chaser_64 rfl (lv_at hl 0 rfl) ?_
          refine r_gi S hE hw 23 iw10_X10_chaser rfl rfl (by decide) (hts _ mf115_X10_chaser) dX10_chaser_65 ?_
          refine lv_iload_n hx hb dX10_chaser_68 rfl (lv_at hl 2 rfl) ?_
          obtain ⟨s9, gs9, h⟩ := oB_out h
          refine r_as S hE hw rfl rfl gs9 dX10_chaser_69 (fun H locs hw => ?_)
          refine lv_aload_n hx hb dX10_chaser_70 rfl (lv_at hl 0 rfl) ?_
          refine r_gr S hE hw 26 95 iw10_X10_chaser rfl rfl (by decide) rfl (hts _ mf84_X10_chaser) dX10_chaser_71 ?_
          refine lv_aload_n hx hb dX10_chaser_74 rfl (lv_at hl 0 rfl) ?_
          refine r_gi S hE hw 23 iw10_X10_chaser rfl rfl (by decide) (hts _ mf115_X10_chaser) dX10_chaser_75 ?_
          refine lv_iload_n hx hb dX10_chaser_78 rfl (lv_at hl 3 rfl) ?_
          obtain ⟨s10, gs10, h⟩ := oB_out h
          refine r_as S hE hw rfl rfl gs10 dX10_chaser_79 (fun H locs hw => ?_)
          refine lv_aload_n hx hb dX10_chaser_80 rfl (lv_at hl 0 rfl) ?_
          refine lv_dup hx hb dX10_chaser_81 rfl ?_
          refine r_gi S hE hw 23 iw10_X10_chaser rfl rfl (by decide) (hts _ mf115_X10_chaser) dX10_chaser_82 ?_
          refine lv_iconst (v := 1) hx hb dX10_chaser_85 (by decide) ?_
          refine lv_iadd hx hb dX10_chaser_86 ?_
          obtain ⟨s11, gs11, h⟩ := bT_out h
          refine r_pi S hE hw 23 ((s10.1 72 23) + 1) iw10_X10_chaser tyX10 tyX10_ok nmX10 rfl rfl (by decide) (hts _ mf115_X10_chaser) rfl (ty := .int) (by decide +kernel) rfl rfl dX10_chaser_87 (fun H locs hw => ?_)
          rw [← gs11] at hw
          refine lv_aload_n hx hb dX10_chaser_90 rfl (lv_at hl 0 rfl) ?_
          refine r_gi S hE hw 23 iw10_X10_chaser rfl rfl (by decide) (hts _ mf115_X10_chaser) dX10_chaser_91 ?_
          refine lv_iconst (v := 1) hx hb dX10_chaser_94 (by decide) ?_
          refine lv_isub hx hb dX10_chaser_95 ?_
          obtain ⟨rfl, rfl⟩ := rt2 h
          exact r_iret S hr hlocks hw dX10_chaser_96
        · have h := if_t c7 h
          refine lv_bipush (v := (-4)) hx hb dX10_chaser_47 (by decide) ?_
          obtain ⟨rfl, rfl⟩ := rt2 h
          exact r_iret S hr hlocks hw dX10_chaser_49
      · have h := if_t c6 h
        refine lv_bipush (v := (-3)) hx hb dX10_chaser_36 (by decide) ?_
        obtain ⟨rfl, rfl⟩ := rt2 h
        exact r_iret S hr hlocks hw dX10_chaser_38
    · have h := if_t c4 h
      refine lv_bipush (v := (-2)) hx hb dX10_chaser_18 (by decide) ?_
      obtain ⟨rfl, rfl⟩ := rt2 h
      exact r_iret S hr hlocks hw dX10_chaser_20


theorem mf16_X10_reaches : Cond.fieldLink RX10 16 "GasVoyagesModel" "kinds" "[I" ∈ wsX10_reaches := by decide +kernel
set_option maxRecDepth 20000 in
theorem iw10_X10_reaches : ∀ w ∈ u_ws RX10 TX10 43, w ∈ wsX10_reaches := by decide +kernel
theorem mf102_X10_reaches : Cond.fieldLink RX10 102 "GasVoyagesModel" "far" "[I" ∈ wsX10_reaches := by decide +kernel
def f_X10_reaches (σ : St) (p1 : Int32) (p2 : Int32) (p3 : Int32) : Option (Int32 × St) := if (f_X10_isCell σ p1 p2) = 0 then (some (0, σ)) else (Option.bind (aL σ 73 576 ((24 * p2) + p1)) fun v3 => if v3 = 1 then (some (0, σ)) else (Option.bind (aL σ 101 576 ((24 * p2) + p1)) fun v5 => if v5 = (-1) then (Option.bind (aS σ 101 576 ((24 * p2) + p1) (p3 + 1)) fun s7 => some (1, s7)) else (some (0, σ))))
set_option maxRecDepth 100000 in
set_option maxHeartbeats 4000000 in
theorem c_X10_reaches (l : Launch) (G : Gp) (A : Nat → Prop) (σ : St) (p1 : Int32) (p2 : Int32) (p3 : Int32) {r : Int32} {σ' : St} (h : f_X10_reaches σ p1 p2 p3 = some (r, σ')) : Kz l yX10_reaches wsX10_reaches 2 G A [.ref (ad G 72), .int p1, .int p2, .int p3] σ r σ' := by
  unfold f_X10_reaches at h
  refine r_start (ws := wsX10_reaches) (d := 2) (by decide) rfl [.ref (ad G 72), .int p1, .int p2, .int p3] (Nat.le_of_ble_eq_true rfl) ?_
  intro p e s m below meth c S hr hlocks hE hw ls hl
  have hl : lv_has ls 4 [(0, .ref (ad G 72)), (1, .int p1), (2, .int p2), (3, .int p3)] := hl
  obtain ⟨hx, hb, hml, hown, hts⟩ := id S
  refine lv_aload_n hx hb dX10_reaches_0 rfl (lv_at hl 0 rfl) ?_
  refine lv_iload_n hx hb dX10_reaches_1 rfl (lv_at hl 1 rfl) ?_
  refine lv_iload_n hx hb dX10_reaches_2 rfl (lv_at hl 2 rfl) ?_
  refine r_cz (r_runV (k := 72) (ci := 10) (As := [.int p1, .int p2]) (rest := []) S hE hw (c_X10_isCell  l G A σ p1 p2) (cwV 2 hts gX10_reaches_X10_isCell rfl rfl rfl (by decide +kernel) ⟨Nat.le_of_ble_eq_true rfl, Nat.le_of_ble_eq_true rfl⟩) rfl rfl (by decide) rfl hl.1 rfl (Nat.le_of_ble_eq_true rfl) ⟨Nat.zero_le _, Nat.zero_le _⟩ dX10_reaches_3) hw (fun H locs hw hb1 => ?_)
  refine lv_if_eq (tgt := 39) hx hb dX10_reaches_6 (by decide) (fun c2 => ?_) (fun c2 => ?_)
  · have h := if_t c2 h
    refine lv_iconst (v := 0) hx hb dX10_reaches_39 (by decide) ?_
    obtain ⟨rfl, rfl⟩ := rt2 h
    exact r_zret S hr hlocks hw (Or.inl rfl) dX10_reaches_40
  · have h := if_f c2 h
    refine lv_aload_n hx hb dX10_reaches_9 rfl (lv_at hl 0 rfl) ?_
    refine r_gr S hE hw 2 73 iw10_X10_reaches rfl rfl (by decide) rfl (hts _ mf16_X10_reaches) dX10_reaches_10 ?_
    refine lv_bipush (v := 24) hx hb dX10_reaches_13 (by decide) ?_
    refine lv_iload_n hx hb dX10_reaches_15 rfl (lv_at hl 2 rfl) ?_
    refine lv_imul hx hb dX10_reaches_16 ?_
    refine lv_iload_n hx hb dX10_reaches_17 rfl (lv_at hl 1 rfl) ?_
    refine lv_iadd hx hb dX10_reaches_18 ?_
    obtain ⟨v3, gv3, h⟩ := oB_out h
    refine r_al S hE hw rfl rfl gv3 dX10_reaches_19 ?_
    refine lv_iconst (v := 1) hx hb dX10_reaches_20 (by decide) ?_
    refine lv_icmp_eq (tgt := 39) hx hb dX10_reaches_21 (by decide) (fun c4 => ?_) (fun c4 => ?_)
    · have h := if_t c4 h
      refine lv_iconst (v := 0) hx hb dX10_reaches_39 (by decide) ?_
      obtain ⟨rfl, rfl⟩ := rt2 h
      exact r_zret S hr hlocks hw (Or.inl rfl) dX10_reaches_40
    · have h := if_f c4 h
      refine lv_aload_n hx hb dX10_reaches_24 rfl (lv_at hl 0 rfl) ?_
      refine r_gr S hE hw 41 101 iw10_X10_reaches rfl rfl (by decide) rfl (hts _ mf102_X10_reaches) dX10_reaches_25 ?_
      refine lv_bipush (v := 24) hx hb dX10_reaches_28 (by decide) ?_
      refine lv_iload_n hx hb dX10_reaches_30 rfl (lv_at hl 2 rfl) ?_
      refine lv_imul hx hb dX10_reaches_31 ?_
      refine lv_iload_n hx hb dX10_reaches_32 rfl (lv_at hl 1 rfl) ?_
      refine lv_iadd hx hb dX10_reaches_33 ?_
      obtain ⟨v5, gv5, h⟩ := oB_out h
      refine r_al S hE hw rfl rfl gv5 dX10_reaches_34 ?_
      refine lv_iconst (v := (-1)) hx hb dX10_reaches_35 (by decide) ?_
      refine lv_icmp_eq (tgt := 41) hx hb dX10_reaches_36 (by decide) (fun c6 => ?_) (fun c6 => ?_)
      · have h := if_t c6 h
        refine lv_aload_n hx hb dX10_reaches_41 rfl (lv_at hl 0 rfl) ?_
        refine r_gr S hE hw 41 101 iw10_X10_reaches rfl rfl (by decide) rfl (hts _ mf102_X10_reaches) dX10_reaches_42 ?_
        refine lv_bipush (v := 24) hx hb dX10_reaches_45 (by decide) ?_
        refine lv_iload_n hx hb dX10_reaches_47 rfl (lv_at hl 2 rfl) ?_
        refine lv_imul hx hb dX10_reaches_48 ?_
        refine lv_iload_n hx hb dX10_reaches_49 rfl (lv_at hl 1 rfl) ?_
        refine lv_iadd hx hb dX10_reaches_50 ?_
        refine lv_iload_n hx hb dX10_reaches_51 rfl (lv_at hl 3 rfl) ?_
        refine lv_iconst (v := 1) hx hb dX10_reaches_52 (by decide) ?_
        refine lv_iadd hx hb dX10_reaches_53 ?_
        obtain ⟨s7, gs7, h⟩ := oB_out h
        refine r_as S hE hw rfl rfl gs7 dX10_reaches_54 (fun H locs hw => ?_)
        refine lv_iconst (v := 1) hx hb dX10_reaches_55 (by decide) ?_
        obtain ⟨rfl, rfl⟩ := rt2 h
        exact r_zret S hr hlocks hw (Or.inr rfl) dX10_reaches_56
      · have h := if_f c6 h
        refine lv_iconst (v := 0) hx hb dX10_reaches_39 (by decide) ?_
        obtain ⟨rfl, rfl⟩ := rt2 h
        exact r_zret S hr hlocks hw (Or.inl rfl) dX10_reaches_40

