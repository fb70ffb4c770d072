set_option maxRecDepth 100000 in
set_option maxHeartbeats 4000000 in
theorem lwc_land {p : Program} {l : Launch} {e : Env} {s : State} {m : MethodId} {below : List Frame} {meth : Method} {c : Code} {b L : Nat} {xs : Nat → Int32} {G : Gp} {Inv : St → Prop} (C0 : lw_At p s m meth c b L xs) (hE : Ev G (aw s) s) (hM : MS_land Inv) {i : Nat} (hi : i + 7 ≤ L) (hL : L ≤ 3584) {cells slots : Nat} (hf : cells ≤ room_1.cells ∧ slots ≤ room_1.slots) (hk : ∀ (σ : St) (H : Heap) (locs : List Loc) (ls : Array Slot), Inv σ → Ww G (aw s) σ s H locs → lv_has ls 4 [(0, .ref b), (1, .ref (ad G 0)), (2, .ref (ad G 72)), (3, .int (nI i))] → W p l e room_1 s m #[Value.ref b] below meth c H locs cells slots (lw_Z below #[Value.ref b] s) (F0 m 1019 ls [])) {σ : St} {H : Heap} {locs : List Loc} {ls : Array Slot} (hI : Inv σ) (hw : Ww G (aw s) σ s H locs) (hl : lv_has ls 4 [(0, .ref b), (1, .ref (ad G 0)), (2, .ref (ad G 72)), (3, .int (nI i))]) : W p l e room_1 s m #[Value.ref b] below meth c H locs cells slots (lw_Z below #[Value.ref b] s) (F0 m 136 ls []) := by
  obtain ⟨hx, hb, hr, hml, hown, hts0, hX, hbl, hlocks, hgv⟩ := C0
  have hts : ∀ w ∈ wsL_law, w.before #[Value.ref b] s = true := fun w h => hts0 w (wsL_law_in w h)
  have SL : CallFix p m c cL_law 4 s #[Value.ref b] wsL_law RL := ⟨hx, hb, hml, hown, hts⟩
  have hbA : ¬ (aw s) b := Nat.not_le.mpr hbl
  refine lv_aload_n hx hb dL_law_136 rfl (lv_at hl 1 rfl) ?_
  refine lv_aload_n hx hb dL_law_137 rfl (lv_at hl 0 rfl) ?_
  refine lv_iload_n hx hb dL_law_138 rfl (lv_at hl 3 rfl) ?_
  refine lv_iconst (v := 1) hx hb dL_law_139 (by decide) ?_
  refine lv_iadd hx hb dL_law_140 ?_
  refine va_sld hx hb hX hbl hbA hw.2.2.1 (scr_in hi hL (k := 1) (by decide)) dL_law_141 ?_
  refine lv_aload_n hx hb dL_law_142 rfl (lv_at hl 0 rfl) ?_
  refine lv_iload_n hx hb dL_law_143 rfl (lv_at hl 3 rfl) ?_
  refine lv_iconst (v := 2) hx hb dL_law_144 (by decide) ?_
  refine lv_iadd hx hb dL_law_145 ?_
  refine va_sld hx hb hX hbl hbA hw.2.2.1 (scr_in hi hL (k := 2) (by decide)) dL_law_146 ?_
  obtain ⟨r, s1, s2, g1, g2, hI2⟩ := hM σ hI (xs (nI i + 1).toNatClampNeg) (xs (nI i + 2).toNatClampNeg)
  refine r_ci (r_runV (k := 0) (ci := 9) (As := [.int (xs (nI i + 1).toNatClampNeg), .int (xs (nI i + 2).toNatClampNeg)]) (rest := []) SL hE hw (c_X9_land l G (aw s) σ (xs (nI i + 1).toNatClampNeg) (xs (nI i + 2).toNatClampNeg) g1) (cwV 2 hts gL_law_X9_land rfl rfl rfl (by decide +kernel) ⟨Nat.le_of_ble_eq_true rfl, Nat.le_of_ble_eq_true rfl⟩) rfl rfl (by decide) rfl hl.1 rfl (Nat.le_of_ble_eq_true rfl) hf dL_law_147) hw (fun H locs hw => ?_)
  refine lv_aload_n hx hb dL_law_150 rfl (lv_at hl 2 rfl) ?_
  refine lv_aload_n hx hb dL_law_151 rfl (lv_at hl 0 rfl) ?_
  refine lv_iload_n hx hb dL_law_152 rfl (lv_at hl 3 rfl) ?_
  refine lv_iconst (v := 1) hx hb dL_law_153 (by decide) ?_
  refine lv_iadd hx hb dL_law_154 ?_
  refine va_sld hx hb hX hbl hbA hw.2.2.1 (scr_in hi hL (k := 1) (by decide)) dL_law_155 ?_
  refine lv_aload_n hx hb dL_law_156 rfl (lv_at hl 0 rfl) ?_
  refine lv_iload_n hx hb dL_law_157 rfl (lv_at hl 3 rfl) ?_
  refine lv_iconst (v := 2) hx hb dL_law_158 (by decide) ?_
  refine lv_iadd hx hb dL_law_159 ?_
  refine va_sld hx hb hX hbl hbA hw.2.2.1 (scr_in hi hL (k := 2) (by decide)) dL_law_160 ?_
  refine r_ci (r_runV (k := 72) (ci := 10) (As := [.int (xs (nI i + 1).toNatClampNeg), .int (xs (nI i + 2).toNatClampNeg)]) (rest := [.int r]) SL hE hw (c_X10_land l G (aw s) s1 (xs (nI i + 1).toNatClampNeg) (xs (nI i + 2).toNatClampNeg) g2) (cwV 2 hts gL_law_X10_land rfl rfl rfl (by decide +kernel) ⟨Nat.le_of_ble_eq_true rfl, Nat.le_of_ble_eq_true rfl⟩) rfl rfl (by decide) rfl hl.1 rfl (Nat.le_of_ble_eq_true rfl) hf dL_law_161) hw (fun H locs hw => ?_)
  refine lv_icmp_eq (tgt := 1019) hx hb dL_law_164 (by decide) (fun _ => ?_) (fun c2 => absurd rfl c2)
  exact hk s2 _ _ _ hI2 hw hl

set_option maxRecDepth 100000 in
set_option maxHeartbeats 4000000 in
theorem lwc_cell {p : Program} {l : Launch} {e : Env} {s : State} {m : MethodId} {below : List Frame} {meth : Method} {c : Code} {b L : Nat} {xs : Nat → Int32} {G : Gp} {Inv : St → Prop} (C0 : lw_At p s m meth c b L xs) (hE : Ev G (aw s) s) (hM : MS_cell Inv) {i : Nat} (hi : i + 7 ≤ L) (hL : L ≤ 3584) {cells slots : Nat} (hf : cells ≤ room_1.cells ∧ slots ≤ room_1.slots) (hk : ∀ (σ : St) (H : Heap) (locs : List Loc) (ls : Array Slot), Inv σ → Ww G (aw s) σ s H locs → lv_has ls 4 [(0, .ref b), (1, .ref (ad G 0)), (2, .ref (ad G 72)), (3, .int (nI i))] → W p l e room_1 s m #[Value.ref b] below meth c H locs cells slots (lw_Z below #[Value.ref b] s) (F0 m 1019 ls [])) {σ : St} {H : Heap} {locs : List Loc} {ls : Array Slot} (hI : Inv σ) (hw : Ww G (aw s) σ s H locs) (hl : lv_has ls 4 [(0, .ref b), (1, .ref (ad G 0)), (2, .ref (ad G 72)), (3, .int (nI i))]) : W p l e room_1 s m #[Value.ref b] below meth c H locs cells slots (lw_Z below #[Value.ref b] s) (F0 m 169 ls []) := by
  obtain ⟨hx, hb, hr, hml, hown, hts0, hX, hbl, hlocks, hgv⟩ := C0
  have hts : ∀ w ∈ wsL_law, w.before #[Value.ref b] s = true := fun w h => hts0 w (wsL_law_in w h)
  have SL : CallFix p m c cL_law 4 s #[Value.ref b] wsL_law RL := ⟨hx, hb, hml, hown, hts⟩
  have hbA : ¬ (aw s) b := Nat.not_le.mpr hbl
  refine lv_aload_n hx hb dL_law_169 rfl (lv_at hl 1 rfl) ?_
  refine lv_aload_n hx hb dL_law_170 rfl (lv_at hl 0 rfl) ?_
  refine lv_iload_n hx hb dL_law_171 rfl (lv_at hl 3 rfl) ?_
  refine lv_iconst (v := 1) hx hb dL_law_172 (by decide) ?_
  refine lv_iadd hx hb dL_law_173 ?_
  refine va_sld hx hb hX hbl hbA hw.2.2.1 (scr_in hi hL (k := 1) (by decide)) dL_law_174 ?_
  refine lv_aload_n hx hb dL_law_175 rfl (lv_at hl 0 rfl) ?_
  refine lv_iload_n hx hb dL_law_176 rfl (lv_at hl 3 rfl) ?_
  refine lv_iconst (v := 2) hx hb dL_law_177 (by decide) ?_
  refine lv_iadd hx hb dL_law_178 ?_
  refine va_sld hx hb hX hbl hbA hw.2.2.1 (scr_in hi hL (k := 2) (by decide)) dL_law_179 ?_
  refine lv_aload_n hx hb dL_law_180 rfl (lv_at hl 0 rfl) ?_
  refine lv_iload_n hx hb dL_law_181 rfl (lv_at hl 3 rfl) ?_
  refine lv_iconst (v := 3) hx hb dL_law_182 (by decide) ?_
  refine lv_iadd hx hb dL_law_183 ?_
  refine va_sld hx hb hX hbl hbA hw.2.2.1 (scr_in hi hL (k := 3) (by decide)) dL_law_184 ?_
  obtain ⟨r, s1, s2, g1, g2, hI2⟩ := hM σ hI (xs (nI i + 1).toNatClampNeg) (xs (nI i + 2).toNatClampNeg) (xs (nI i + 3).toNatClampNeg)
  refine r_ci (r_runV (k := 0) (ci := 9) (As := [.int (xs (nI i + 1).toNatClampNeg), .int (xs (nI i + 2).toNatClampNeg), .int (xs (nI i + 3).toNatClampNeg)]) (rest := []) SL hE hw (c_X9_cell l G (aw s) σ (xs (nI i + 1).toNatClampNeg) (xs (nI i + 2).toNatClampNeg) (xs (nI i + 3).toNatClampNeg) g1) (cwV 3 hts gL_law_X9_cell rfl rfl rfl (by decide +kernel) ⟨Nat.le_of_ble_eq_true rfl, Nat.le_of_ble_eq_true rfl⟩) rfl rfl (by decide) rfl hl.1 rfl (Nat.le_of_ble_eq_true rfl) hf dL_law_185) hw (fun H locs hw => ?_)
  refine lv_aload_n hx hb dL_law_188 rfl (lv_at hl 2 rfl) ?_
  refine lv_aload_n hx hb dL_law_189 rfl (lv_at hl 0 rfl) ?_
  refine lv_iload_n hx hb dL_law_190 rfl (lv_at hl 3 rfl) ?_
  refine lv_iconst (v := 1) hx hb dL_law_191 (by decide) ?_
  refine lv_iadd hx hb dL_law_192 ?_
  refine va_sld hx hb hX hbl hbA hw.2.2.1 (scr_in hi hL (k := 1) (by decide)) dL_law_193 ?_
  refine lv_aload_n hx hb dL_law_194 rfl (lv_at hl 0 rfl) ?_
  refine lv_iload_n hx hb dL_law_195 rfl (lv_at hl 3 rfl) ?_
  refine lv_iconst (v := 2) hx hb dL_law_196 (by decide) ?_
  refine lv_iadd hx hb dL_law_197 ?_
  refine va_sld hx hb hX hbl hbA hw.2.2.1 (scr_in hi hL (k := 2) (by decide)) dL_law_198 ?_
  refine lv_aload_n hx hb dL_law_199 rfl (lv_at hl 0 rfl) ?_
  refine lv_iload_n hx hb dL_law_200 rfl (lv_at hl 3 rfl) ?_
  refine lv_iconst (v := 3) hx hb dL_law_201 (by decide) ?_
  refine lv_iadd hx hb dL_law_202 ?_
  refine va_sld hx hb hX hbl hbA hw.2.2.1 (scr_in hi hL (k := 3) (by decide)) dL_law_203 ?_
  refine r_ci (r_runV (k := 72) (ci := 10) (As := [.int (xs (nI i + 1).toNatClampNeg), .int (xs (nI i + 2).toNatClampNeg), .int (xs (nI i + 3).toNatClampNeg)]) (rest := [.int r]) SL hE hw (c_X10_cell l G (aw s) s1 (xs (nI i + 1).toNatClampNeg) (xs (nI i + 2).toNatClampNeg) (xs (nI i + 3).toNatClampNeg) g2) (cwV 3 hts gL_law_X10_cell rfl rfl rfl (by decide +kernel) ⟨Nat.le_of_ble_eq_true rfl, Nat.le_of_ble_eq_true rfl⟩) rfl rfl (by decide) rfl hl.1 rfl (Nat.le_of_ble_eq_true rfl) hf dL_law_204) hw (fun H locs hw => ?_)
  refine lv_icmp_eq (tgt := 1019) hx hb dL_law_207 (by decide) (fun _ => ?_) (fun c2 => absurd rfl c2)
  exact hk s2 _ _ _ hI2 hw hl

set_option maxRecDepth 100000 in
set_option maxHeartbeats 4000000 in
theorem lwc_level {p : Program} {l : Launch} {e : Env} {s : State} {m : MethodId} {below : List Frame} {meth : Method} {c : Code} {b L : Nat} {xs : Nat → Int32} {G : Gp} {Inv : St → Prop} (C0 : lw_At p s m meth c b L xs) (hE : Ev G (aw s) s) (hM : MS_level Inv) {i : Nat} (hi : i + 7 ≤ L) (hL : L ≤ 3584) {cells slots : Nat} (hf : cells ≤ room_1.cells ∧ slots ≤ room_1.slots) (hk : ∀ (σ : St) (H : Heap) (locs : List Loc) (ls : Array Slot), Inv σ → Ww G (aw s) σ s H locs → lv_has ls 4 [(0, .ref b), (1, .ref (ad G 0)), (2, .ref (ad G 72)), (3, .int (nI i))] → W p l e room_1 s m #[Value.ref b] below meth c H locs cells slots (lw_Z below #[Value.ref b] s) (F0 m 1019 ls [])) {σ : St} {H : Heap} {locs : List Loc} {ls : Array Slot} (hI : Inv σ) (hw : Ww G (aw s) σ s H locs) (hl : lv_has ls 4 [(0, .ref b), (1, .ref (ad G 0)), (2, .ref (ad G 72)), (3, .int (nI i))]) : W p l e room_1 s m #[Value.ref b] below meth c H locs cells slots (lw_Z below #[Value.ref b] s) (F0 m 212 ls []) := by
  obtain ⟨hx, hb, hr, hml, hown, hts0, hX, hbl, hlocks, hgv⟩ := C0
  have hts : ∀ w ∈ wsL_law, w.before #[Value.ref b] s = true := fun w h => hts0 w (wsL_law_in w h)
  have SL : CallFix p m c cL_law 4 s #[Value.ref b] wsL_law RL := ⟨hx, hb, hml, hown, hts⟩
  have hbA : ¬ (aw s) b := Nat.not_le.mpr hbl
  refine lv_aload_n hx hb dL_law_212 rfl (lv_at hl 1 rfl) ?_
  refine lv_aload_n hx hb dL_law_213 rfl (lv_at hl 0 rfl) ?_
  refine lv_iload_n hx hb dL_law_214 rfl (lv_at hl 3 rfl) ?_
  refine lv_iconst (v := 1) hx hb dL_law_215 (by decide) ?_
  refine lv_iadd hx hb dL_law_216 ?_
  refine va_sld hx hb hX hbl hbA hw.2.2.1 (scr_in hi hL (k := 1) (by decide)) dL_law_217 ?_
  refine lv_aload_n hx hb dL_law_218 rfl (lv_at hl 0 rfl) ?_
  refine lv_iload_n hx hb dL_law_219 rfl (lv_at hl 3 rfl) ?_
  refine lv_iconst (v := 2) hx hb dL_law_220 (by decide) ?_
  refine lv_iadd hx hb dL_law_221 ?_
  refine va_sld hx hb hX hbl hbA hw.2.2.1 (scr_in hi hL (k := 2) (by decide)) dL_law_222 ?_
  refine lv_aload_n hx hb dL_law_223 rfl (lv_at hl 0 rfl) ?_
  refine lv_iload_n hx hb dL_law_224 rfl (lv_at hl 3 rfl) ?_
  refine lv_iconst (v := 3) hx hb dL_law_225 (by decide) ?_
  refine lv_iadd hx hb dL_law_226 ?_
  refine va_sld hx hb hX hbl hbA hw.2.2.1 (scr_in hi hL (k := 3) (by decide)) dL_law_227 ?_
  obtain ⟨r, s1, s2, g1, g2, hI2⟩ := hM σ hI (xs (nI i + 1).toNatClampNeg) (xs (nI i + 2).toNatClampNeg) (xs (nI i + 3).toNatClampNeg)
  refine r_ci (r_runV (k := 0) (ci := 9) (As := [.int (xs (nI i + 1).toNatClampNeg), .int (xs (nI i + 2).toNatClampNeg), .int (xs (nI i + 3).toNatClampNeg)]) (rest := []) SL hE hw (c_X9_level l G (aw s) σ (xs (nI i + 1).toNatClampNeg) (xs (nI i + 2).toNatClampNeg) (xs (nI i + 3).toNatClampNeg) g1) (cwV 3 hts gL_law_X9_level rfl rfl rfl (by decide +kernel) ⟨Nat.le_of_ble_eq_true rfl, Nat.le_of_ble_eq_true rfl⟩) rfl rfl (by decide) rfl hl.1 rfl (Nat.le_of_ble_eq_true rfl) hf dL_law_228) hw (fun H locs hw => ?_)
  refine lv_aload_n hx hb dL_law_231 rfl (lv_at hl 2 rfl) ?_
  refine lv_aload_n hx hb dL_law_232 rfl (lv_at hl 0 rfl) ?_
  refine lv_iload_n hx hb dL_law_233 rfl (lv_at hl 3 rfl) ?_
  refine lv_iconst (v := 1) hx hb dL_law_234 (by decide) ?_
  refine lv_iadd hx hb dL_law_235 ?_
  refine va_sld hx hb hX hbl hbA hw.2.2.1 (scr_in hi hL (k := 1) (by decide)) dL_law_236 ?_
  refine lv_aload_n hx hb dL_law_237 rfl (lv_at hl 0 rfl) ?_
  refine lv_iload_n hx hb dL_law_238 rfl (lv_at hl 3 rfl) ?_
  refine lv_iconst (v := 2) hx hb dL_law_239 (by decide) ?_
  refine lv_iadd hx hb dL_law_240 ?_
  refine va_sld hx hb hX hbl hbA hw.2.2.1 (scr_in hi hL (k := 2) (by decide)) dL_law_241 ?_
  refine lv_aload_n hx hb dL_law_242 rfl (lv_at hl 0 rfl) ?_
  refine lv_iload_n hx hb dL_law_243 rfl (lv_at hl 3 rfl) ?_
  refine lv_iconst (v := 3) hx hb dL_law_244 (by decide) ?_
  refine lv_iadd hx hb dL_law_245 ?_
  refine va_sld hx hb hX hbl hbA hw.2.2.1 (scr_in hi hL (k := 3) (by decide)) dL_law_246 ?_
  refine r_ci (r_runV (k := 72) (ci := 10) (As := [.int (xs (nI i + 1).toNatClampNeg), .int (xs (nI i + 2).toNatClampNeg), .int (xs (nI i + 3).toNatClampNeg)]) (rest := [.int r]) SL hE hw (c_X10_level l G (aw s) s1 (xs (nI i + 1).toNatClampNeg) (xs (nI i + 2).toNatClampNeg) (xs (nI i + 3).toNatClampNeg) g2) (cwV 3 hts gL_law_X10_level rfl rfl rfl (by decide +kernel) ⟨Nat.le_of_ble_eq_true rfl, Nat.le_of_ble_eq_true rfl⟩) rfl rfl (by decide) rfl hl.1 rfl (Nat.le_of_ble_eq_true rfl) hf dL_law_247) hw (fun H locs hw => ?_)
  refine lv_icmp_eq (tgt := 1019) hx hb dL_law_250 (by decide) (fun _ => ?_) (fun c2 => absurd rfl c2)
  exact hk s2 _ _ _ hI2 hw hl

set_option maxRecDepth 100000 in
set_option maxHeartbeats 4000000 in
theorem lwc_warmth {p : Program} {l : Launch} {e : Env} {s : State} {m : MethodId} {below : List Frame} {meth : Method} {c : Code} {b L : Nat} {xs : Nat → Int32} {G : Gp} {Inv : St → Prop} (C0 : lw_At p s m meth c b L xs) (hE : Ev G (aw s) s) (hM : MS_warmth Inv) {i : Nat} (hi : i + 7 ≤ L) (hL : L ≤ 3584) {cells slots : Nat} (hf : cells ≤ room_1.cells ∧ slots ≤ room_1.slots) (hk : ∀ (σ : St) (H : Heap) (locs : List Loc) (ls : Array Slot), Inv σ → Ww G (aw s) σ s H locs → lv_has ls 4 [(0, .ref b), (1, .ref (ad G 0)), (2, .ref (ad G 72)), (3, .int (nI i))] → W p l e room_1 s m #[Value.ref b] below meth c H locs cells slots (lw_Z below #[Value.ref b] s) (F0 m 1019 ls [])) {σ : St} {H : Heap} {locs : List Loc} {ls : Array Slot} (hI : Inv σ) (hw : Ww G (aw s) σ s H locs) (hl : lv_has ls 4 [(0, .ref b), (1, .ref (ad G 0)), (2, .ref (ad G 72)), (3, .int (nI i))]) : W p l e room_1 s m #[Value.ref b] below meth c H locs cells slots (lw_Z below #[Value.ref b] s) (F0 m 255 ls []) := by
  obtain ⟨hx, hb, hr, hml, hown, hts0, hX, hbl, hlocks, hgv⟩ := C0
  have hts : ∀ w ∈ wsL_law, w.before #[Value.ref b] s = true := fun w h => hts0 w (wsL_law_in w h)
  have SL : CallFix p m c cL_law 4 s #[Value.ref b] wsL_law RL := ⟨hx, hb, hml, hown, hts⟩
  have hbA : ¬ (aw s) b := Nat.not_le.mpr hbl
  refine lv_aload_n hx hb dL_law_255 rfl (lv_at hl 1 rfl) ?_
  refine lv_aload_n hx hb dL_law_256 rfl (lv_at hl 0 rfl) ?_
  refine lv_iload_n hx hb dL_law_257 rfl (lv_at hl 3 rfl) ?_
  refine lv_iconst (v := 1) hx hb dL_law_258 (by decide) ?_
  refine lv_iadd hx hb dL_law_259 ?_
  refine va_sld hx hb hX hbl hbA hw.2.2.1 (scr_in hi hL (k := 1) (by decide)) dL_law_260 ?_
  refine lv_aload_n hx hb dL_law_261 rfl (lv_at hl 0 rfl) ?_
  refine lv_iload_n hx hb dL_law_262 rfl (lv_at hl 3 rfl) ?_
  refine lv_iconst (v := 2) hx hb dL_law_263 (by decide) ?_
  refine lv_iadd hx hb dL_law_264 ?_
  refine va_sld hx hb hX hbl hbA hw.2.2.1 (scr_in hi hL (k := 2) (by decide)) dL_law_265 ?_
  obtain ⟨r, s1, s2, g1, g2, hI2⟩ := hM σ hI (xs (nI i + 1).toNatClampNeg) (xs (nI i + 2).toNatClampNeg)
  refine r_ci (r_runV (k := 0) (ci := 9) (As := [.int (xs (nI i + 1).toNatClampNeg), .int (xs (nI i + 2).toNatClampNeg)]) (rest := []) SL hE hw (c_X9_warmth l G (aw s) σ (xs (nI i + 1).toNatClampNeg) (xs (nI i + 2).toNatClampNeg) g1) (cwV 2 hts gL_law_X9_warmth rfl rfl rfl (by decide +kernel) ⟨Nat.le_of_ble_eq_true rfl, Nat.le_of_ble_eq_true rfl⟩) rfl rfl (by decide) rfl hl.1 rfl (Nat.le_of_ble_eq_true rfl) hf dL_law_266) hw (fun H locs hw => ?_)
  refine lv_aload_n hx hb dL_law_269 rfl (lv_at hl 2 rfl) ?_
  refine lv_aload_n hx hb dL_law_270 rfl (lv_at hl 0 rfl) ?_
  refine lv_iload_n hx hb dL_law_271 rfl (lv_at hl 3 rfl) ?_
  refine lv_iconst (v := 1) hx hb dL_law_272 (by decide) ?_
  refine lv_iadd hx hb dL_law_273 ?_
  refine va_sld hx hb hX hbl hbA hw.2.2.1 (scr_in hi hL (k := 1) (by decide)) dL_law_274 ?_
  refine lv_aload_n hx hb dL_law_275 rfl (lv_at hl 0 rfl) ?_
  refine lv_iload_n hx hb dL_law_276 rfl (lv_at hl 3 rfl) ?_
  refine lv_iconst (v := 2) hx hb dL_law_277 (by decide) ?_
  refine lv_iadd hx hb dL_law_278 ?_
  refine va_sld hx hb hX hbl hbA hw.2.2.1 (scr_in hi hL (k := 2) (by decide)) dL_law_279 ?_
  refine r_ci (r_runV (k := 72) (ci := 10) (As := [.int (xs (nI i + 1).toNatClampNeg), .int (xs (nI i + 2).toNatClampNeg)]) (rest := [.int r]) SL hE hw (c_X10_warmth l G (aw s) s1 (xs (nI i + 1).toNatClampNeg) (xs (nI i + 2).toNatClampNeg) g2) (cwV 2 hts gL_law_X10_warmth rfl rfl rfl (by decide +kernel) ⟨Nat.le_of_ble_eq_true rfl, Nat.le_of_ble_eq_true rfl⟩) rfl rfl (by decide) rfl hl.1 rfl (Nat.le_of_ble_eq_true rfl) hf dL_law_280) hw (fun H locs hw => ?_)
  refine lv_icmp_eq (tgt := 1019) hx hb dL_law_283 (by decide) (fun _ => ?_) (fun c2 => absurd rfl c2)
  exact hk s2 _ _ _ hI2 hw hl

set_option maxRecDepth 100000 in
set_option maxHeartbeats 4000000 in
theorem lwc_wind {p : Program} {l : Launch} {e : Env} {s : State} {m : MethodId} {below : List Frame} {meth : Method} {c : Code} {b L : Nat} {xs : Nat → Int32} {G : Gp} {Inv : St → Prop} (C0 : lw_At p s m meth c b L xs) (hE : Ev G (aw s) s) (hM : MS_wind Inv) {i : Nat} (hi : i + 7 ≤ L) (hL : L ≤ 3584) {cells slots : Nat} (hf : cells ≤ room_1.cells ∧ slots ≤ room_1.slots) (hk : ∀ (σ : St) (H : Heap) (locs : List Loc) (ls : Array Slot), Inv σ → Ww G (aw s) σ s H locs → lv_has ls 4 [(0, .ref b), (1, .ref (ad G 0)), (2, .ref (ad G 72)), (3, .int (nI i))] → W p l e room_1 s m #[Value.ref b] below meth c H locs cells slots (lw_Z below #[Value.ref b] s) (F0 m 1019 ls [])) {σ : St} {H : Heap} {locs : List Loc} {ls : Array Slot} (hI : Inv σ) (hw : Ww G (aw s) σ s H locs) (hl : lv_has ls 4 [(0, .ref b), (1, .ref (ad G 0)), (2, .ref (ad G 72)), (3, .int (nI i))]) : W p l e room_1 s m #[Value.ref b] below meth c H locs cells slots (lw_Z below #[Value.ref b] s) (F0 m 288 ls []) := by
  obtain ⟨hx, hb, hr, hml, hown, hts0, hX, hbl, hlocks, hgv⟩ := C0
  have hts : ∀ w ∈ wsL_law, w.before #[Value.ref b] s = true := fun w h => hts0 w (wsL_law_in w h)
  have SL : CallFix p m c cL_law 4 s #[Value.ref b] wsL_law RL := ⟨hx, hb, hml, hown, hts⟩
  have hbA : ¬ (aw s) b := Nat.not_le.mpr hbl
  refine lv_aload_n hx hb dL_law_288 rfl (lv_at hl 1 rfl) ?_
  refine lv_aload_n hx hb dL_law_289 rfl (lv_at hl 0 rfl) ?_
  refine lv_iload_n hx hb dL_law_290 rfl (lv_at hl 3 rfl) ?_
  refine lv_iconst (v := 1) hx hb dL_law_291 (by decide) ?_
  refine lv_iadd hx hb dL_law_292 ?_
  refine va_sld hx hb hX hbl hbA hw.2.2.1 (scr_in hi hL (k := 1) (by decide)) dL_law_293 ?_
  refine lv_if_eq (tgt := 301) hx hb dL_law_294 (by decide) (fun c1 => ?_) (fun c1 => ?_)
  · skip
    refine lv_iconst (v := 0) hx hb dL_law_301 (by decide) ?_
    refine lv_aload_n hx hb dL_law_302 rfl (lv_at hl 0 rfl) ?_
    refine lv_iload_n hx hb dL_law_303 rfl (lv_at hl 3 rfl) ?_
    refine lv_iconst (v := 2) hx hb dL_law_304 (by decide) ?_
    refine lv_iadd hx hb dL_law_305 ?_
    refine va_sld hx hb hX hbl hbA hw.2.2.1 (scr_in hi hL (k := 2) (by decide)) dL_law_306 ?_
    refine lv_aload_n hx hb dL_law_307 rfl (lv_at hl 0 rfl) ?_
    refine lv_iload_n hx hb dL_law_308 rfl (lv_at hl 3 rfl) ?_
    refine lv_iconst (v := 3) hx hb dL_law_309 (by decide) ?_
    refine lv_iadd hx hb dL_law_310 ?_
    refine va_sld hx hb hX hbl hbA hw.2.2.1 (scr_in hi hL (k := 3) (by decide)) dL_law_311 ?_
    refine lv_aload_n hx hb dL_law_312 rfl (lv_at hl 0 rfl) ?_
    refine lv_iload_n hx hb dL_law_313 rfl (lv_at hl 3 rfl) ?_
    refine lv_iconst (v := 4) hx hb dL_law_314 (by decide) ?_
    refine lv_iadd hx hb dL_law_315 ?_
    refine va_sld hx hb hX hbl hbA hw.2.2.1 (scr_in hi hL (k := 4) (by decide)) dL_law_316 ?_
    refine lv_aload_n hx hb dL_law_317 rfl (lv_at hl 0 rfl) ?_
    refine lv_iload_n hx hb dL_law_318 rfl (lv_at hl 3 rfl) ?_
    refine lv_iconst (v := 5) hx hb dL_law_319 (by decide) ?_
    refine lv_iadd hx hb dL_law_320 ?_
    refine va_sld hx hb hX hbl hbA hw.2.2.1 (scr_in hi hL (k := 5) (by decide)) dL_law_321 ?_
    refine lv_aload_n hx hb dL_law_322 rfl (lv_at hl 0 rfl) ?_
    refine lv_iload_n hx hb dL_law_323 rfl (lv_at hl 3 rfl) ?_
    refine lv_bipush (v := 6) hx hb dL_law_324 (by decide) ?_
    refine lv_iadd hx hb dL_law_326 ?_
    refine va_sld hx hb hX hbl hbA hw.2.2.1 (scr_in hi hL (k := 6) (by decide)) dL_law_327 ?_
    obtain ⟨r, s1, s2, g1, g2, hI2⟩ := hM σ hI 0 (xs (nI i + 2).toNatClampNeg) (xs (nI i + 3).toNatClampNeg) (xs (nI i + 4).toNatClampNeg) (xs (nI i + 5).toNatClampNeg) (xs (nI i + 6).toNatClampNeg)
    refine r_ci (r_runV (k := 0) (ci := 9) (As := [.int 0, .int (xs (nI i + 2).toNatClampNeg), .int (xs (nI i + 3).toNatClampNeg), .int (xs (nI i + 4).toNatClampNeg), .int (xs (nI i + 5).toNatClampNeg), .int (xs (nI i + 6).toNatClampNeg)]) (rest := []) SL hE hw (c_X9_wind l G (aw s) σ 0 (xs (nI i + 2).toNatClampNeg) (xs (nI i + 3).toNatClampNeg) (xs (nI i + 4).toNatClampNeg) (xs (nI i + 5).toNatClampNeg) (xs (nI i + 6).toNatClampNeg) g1) (cwV 6 hts gL_law_X9_wind rfl rfl rfl (by decide +kernel) ⟨Nat.le_of_ble_eq_true rfl, Nat.le_of_ble_eq_true rfl⟩) rfl rfl (by decide) rfl hl.1 rfl (Nat.le_of_ble_eq_true rfl) hf dL_law_328) hw (fun H locs hw => ?_)
    refine lv_aload_n hx hb dL_law_331 rfl (lv_at hl 2 rfl) ?_
    refine lv_aload_n hx hb dL_law_332 rfl (lv_at hl 0 rfl) ?_
    refine lv_iload_n hx hb dL_law_333 rfl (lv_at hl 3 rfl) ?_
    refine lv_iconst (v := 1) hx hb dL_law_334 (by decide) ?_
    refine lv_iadd hx hb dL_law_335 ?_
    refine va_sld hx hb hX hbl hbA hw.2.2.1 (scr_in hi hL (k := 1) (by decide)) dL_law_336 ?_
    refine lv_if_eq (tgt := 344) hx hb dL_law_337 (by decide) (fun _ => ?_) (fun c2 => absurd c1 c2)
    refine lv_iconst (v := 0) hx hb dL_law_344 (by decide) ?_
    refine lv_aload_n hx hb dL_law_345 rfl (lv_at hl 0 rfl) ?_
    refine lv_iload_n hx hb dL_law_346 rfl (lv_at hl 3 rfl) ?_
    refine lv_iconst (v := 2) hx hb dL_law_347 (by decide) ?_
    refine lv_iadd hx hb dL_law_348 ?_
    refine va_sld hx hb hX hbl hbA hw.2.2.1 (scr_in hi hL (k := 2) (by decide)) dL_law_349 ?_
    refine lv_aload_n hx hb dL_law_350 rfl (lv_at hl 0 rfl) ?_
    refine lv_iload_n hx hb dL_law_351 rfl (lv_at hl 3 rfl) ?_
    refine lv_iconst (v := 3) hx hb dL_law_352 (by decide) ?_
    refine lv_iadd hx hb dL_law_353 ?_
    refine va_sld hx hb hX hbl hbA hw.2.2.1 (scr_in hi hL (k := 3) (by decide)) dL_law_354 ?_
    refine lv_aload_n hx hb dL_law_355 rfl (lv_at hl 0 rfl) ?_
    refine lv_iload_n hx hb dL_law_356 rfl (lv_at hl 3 rfl) ?_
    refine lv_iconst (v := 4) hx hb dL_law_357 (by decide) ?_
    refine lv_iadd hx hb dL_law_358 ?_
    refine va_sld hx hb hX hbl hbA hw.2.2.1 (scr_in hi hL (k := 4) (by decide)) dL_law_359 ?_
    refine lv_aload_n hx hb dL_law_360 rfl (lv_at hl 0 rfl) ?_
    refine lv_iload_n hx hb dL_law_361 rfl (lv_at hl 3 rfl) ?_
    refine lv_iconst (v := 5) hx hb dL_law_362 (by decide) ?_
    refine lv_iadd hx hb dL_law_363 ?_
    refine va_sld hx hb hX hbl hbA hw.2.2.1 (scr_in hi hL (k := 5) (by decide)) dL_law_364 ?_
    refine lv_aload_n hx hb dL_law_365 rfl (lv_at hl 0 rfl) ?_
    refine lv_iload_n hx hb dL_law_366 rfl (lv_at hl 3 rfl) ?_
    refine lv_bipush (v := 6) hx hb dL_law_367 (by decide) ?_
    refine lv_iadd hx hb dL_law_369 ?_
    refine va_sld hx hb hX hbl hbA hw.2.2.1 (scr_in hi hL (k := 6) (by decide)) dL_law_370 ?_
    refine r_ci (r_runV (k := 72) (ci := 10) (As := [.int 0, .int (xs (nI i + 2).toNatClampNeg), .int (xs (nI i + 3).toNatClampNeg), .int (xs (nI i + 4).toNatClampNeg), .int (xs (nI i + 5).toNatClampNeg), .int (xs (nI i + 6).toNatClampNeg)]) (rest := [.int r]) SL hE hw (c_X10_wind l G (aw s) s1 0 (xs (nI i + 2).toNatClampNeg) (xs (nI i + 3).toNatClampNeg) (xs (nI i + 4).toNatClampNeg) (xs (nI i + 5).toNatClampNeg) (xs (nI i + 6).toNatClampNeg) g2) (cwV 6 hts gL_law_X10_wind rfl rfl rfl (by decide +kernel) ⟨Nat.le_of_ble_eq_true rfl, Nat.le_of_ble_eq_true rfl⟩) rfl rfl (by decide) rfl hl.1 rfl (Nat.le_of_ble_eq_true rfl) hf dL_law_371) hw (fun H locs hw => ?_)
    refine lv_icmp_eq (tgt := 1019) hx hb dL_law_374 (by decide) (fun _ => ?_) (fun c2 => absurd rfl c2)
    exact hk s2 _ _ _ hI2 hw hl
  · skip
    refine lv_iconst (v := 1) hx hb dL_law_297 (by decide) ?_
    refine lv_goto (tgt := 302) hx hb dL_law_298 (by decide) ?_
    refine lv_aload_n hx hb dL_law_302 rfl (lv_at hl 0 rfl) ?_
    refine lv_iload_n hx hb dL_law_303 rfl (lv_at hl 3 rfl) ?_
    refine lv_iconst (v := 2) hx hb dL_law_304 (by decide) ?_
    refine lv_iadd hx hb dL_law_305 ?_
    refine va_sld hx hb hX hbl hbA hw.2.2.1 (scr_in hi hL (k := 2) (by decide)) dL_law_306 ?_
    refine lv_aload_n hx hb dL_law_307 rfl (lv_at hl 0 rfl) ?_
    refine lv_iload_n hx hb dL_law_308 rfl (lv_at hl 3 rfl) ?_
    refine lv_iconst (v := 3) hx hb dL_law_309 (by decide) ?_
    refine lv_iadd hx hb dL_law_310 ?_
    refine va_sld hx hb hX hbl hbA hw.2.2.1 (scr_in hi hL (k := 3) (by decide)) dL_law_311 ?_
    refine lv_aload_n hx hb dL_law_312 rfl (lv_at hl 0 rfl) ?_
    refine lv_iload_n hx hb dL_law_313 rfl (lv_at hl 3 rfl) ?_
    refine lv_iconst (v := 4) hx hb dL_law_314 (by decide) ?_
    refine lv_iadd hx hb dL_law_315 ?_
    refine va_sld hx hb hX hbl hbA hw.2.2.1 (scr_in hi hL (k := 4) (by decide)) dL_law_316 ?_
    refine lv_aload_n hx hb dL_law_317 rfl (lv_at hl 0 rfl) ?_
    refine lv_iload_n hx hb dL_law_318 rfl (lv_at hl 3 rfl) ?_
    refine lv_iconst (v := 5) hx hb dL_law_319 (by decide) ?_
    refine lv_iadd hx hb dL_law_320 ?_
    refine va_sld hx hb hX hbl hbA hw.2.2.1 (scr_in hi hL (k := 5) (by decide)) dL_law_321 ?_
    refine lv_aload_n hx hb dL_law_322 rfl (lv_at hl 0 rfl) ?_
    refine lv_iload_n hx hb dL_law_323 rfl (lv_at hl 3 rfl) ?_
    refine lv_bipush (v := 6) hx hb dL_law_324 (by decide) ?_
    refine lv_iadd hx hb dL_law_326 ?_
    refine va_sld hx hb hX hbl hbA hw.2.2.1 (scr_in hi hL (k := 6) (by decide)) dL_law_327 ?_
    obtain ⟨r, s1, s2, g1, g2, hI2⟩ := hM σ hI 1 (xs (nI i + 2).toNatClampNeg) (xs (nI i + 3).toNatClampNeg) (xs (nI i + 4).toNatClampNeg) (xs (nI i + 5).toNatClampNeg) (xs (nI i + 6).toNatClampNeg)
    refine r_ci (r_runV (k := 0) (ci := 9) (As := [.int 1, .int (xs (nI i + 2).toNatClampNeg), .int (xs (nI i + 3).toNatClampNeg), .int (xs (nI i + 4).toNatClampNeg), .int (xs (nI i + 5).toNatClampNeg), .int (xs (nI i + 6).toNatClampNeg)]) (rest := []) SL hE hw (c_X9_wind l G (aw s) σ 1 (xs (nI i + 2).toNatClampNeg) (xs (nI i + 3).toNatClampNeg) (xs (nI i + 4).toNatClampNeg) (xs (nI i + 5).toNatClampNeg) (xs (nI i + 6).toNatClampNeg) g1) (cwV 6 hts gL_law_X9_wind rfl rfl rfl (by decide +kernel) ⟨Nat.le_of_ble_eq_true rfl, Nat.le_of_ble_eq_true rfl⟩) rfl rfl (by decide) rfl hl.1 rfl (Nat.le_of_ble_eq_true rfl) hf dL_law_328) hw (fun H locs hw => ?_)
    refine lv_aload_n hx hb dL_law_331 rfl (lv_at hl 2 rfl) ?_
    refine lv_aload_n hx hb dL_law_332 rfl (lv_at hl 0 rfl) ?_
    refine lv_iload_n hx hb dL_law_333 rfl (lv_at hl 3 rfl) ?_
    refine lv_iconst (v := 1) hx hb dL_law_334 (by decide) ?_
    refine lv_iadd hx hb dL_law_335 ?_
    refine va_sld hx hb hX hbl hbA hw.2.2.1 (scr_in hi hL (k := 1) (by decide)) dL_law_336 ?_
    refine lv_if_eq (tgt := 344) hx hb dL_law_337 (by decide) (fun c2 => absurd c2 c1) (fun _ => ?_)
    refine lv_iconst (v := 1) hx hb dL_law_340 (by decide) ?_
    refine lv_goto (tgt := 345) hx hb dL_law_341 (by decide) ?_
    refine lv_aload_n hx hb dL_law_345 rfl (lv_at hl 0 rfl) ?_
    refine lv_iload_n hx hb dL_law_346 rfl (lv_at hl 3 rfl) ?_
    refine lv_iconst (v := 2) hx hb dL_law_347 (by decide) ?_
    refine lv_iadd hx hb dL_law_348 ?_
    refine va_sld hx hb hX hbl hbA hw.2.2.1 (scr_in hi hL (k := 2) (by decide)) dL_law_349 ?_
    refine lv_aload_n hx hb dL_law_350 rfl (lv_at hl 0 rfl) ?_
    refine lv_iload_n hx hb dL_law_351 rfl (lv_at hl 3 rfl) ?_
    refine lv_iconst (v := 3) hx hb dL_law_352 (by decide) ?_
    refine lv_iadd hx hb dL_law_353 ?_
    refine va_sld hx hb hX hbl hbA hw.2.2.1 (scr_in hi hL (k := 3) (by decide)) dL_law_354 ?_
    refine lv_aload_n hx hb dL_law_355 rfl (lv_at hl 0 rfl) ?_
    refine lv_iload_n hx hb dL_law_356 rfl (lv_at hl 3 rfl) ?_
    refine lv_iconst (v := 4) hx hb dL_law_357 (by decide) ?_
    refine lv_iadd hx hb dL_law_358 ?_
    refine va_sld hx hb hX hbl hbA hw.2.2.1 (scr_in hi hL (k := 4) (by decide)) dL_law_359 ?_
    refine lv_aload_n hx hb dL_law_360 rfl (lv_at hl 0 rfl) ?_
    refine lv_iload_n hx hb dL_law_361 rfl (lv_at hl 3 rfl) ?_
    refine lv_iconst (v := 5) hx hb dL_law_362 (by decide) ?_
    refine lv_iadd hx hb dL_law_363 ?_
    refine va_sld hx hb hX hbl hbA hw.2.2.1 (scr_in hi hL (k := 5) (by decide)) dL_law_364 ?_
    refine lv_aload_n hx hb dL_law_365 rfl (lv_at hl 0 rfl) ?_
    refine lv_iload_n hx hb dL_law_366 rfl (lv_at hl 3 rfl) ?_
    refine lv_bipush (v := 6) hx hb dL_law_367 (by decide) ?_
    refine lv_iadd hx hb dL_law_369 ?_
    refine va_sld hx hb hX hbl hbA hw.2.2.1 (scr_in hi hL (k := 6) (by decide)) dL_law_370 ?_
    refine r_ci (r_runV (k := 72) (ci := 10) (As := [.int 1, .int (xs (nI i + 2).toNatClampNeg), .int (xs (nI i + 3).toNatClampNeg), .int (xs (nI i + 4).toNatClampNeg), .int (xs (nI i + 5).toNatClampNeg), .int (xs (nI i + 6).toNatClampNeg)]) (rest := [.int r]) SL hE hw (c_X10_wind l G (aw s) s1 1 (xs (nI i + 2).toNatClampNeg) (xs (nI i + 3).toNatClampNeg) (xs (nI i + 4).toNatClampNeg) (xs (nI i + 5).toNatClampNeg) (xs (nI i + 6).toNatClampNeg) g2) (cwV 6 hts gL_law_X10_wind rfl rfl rfl (by decide +kernel) ⟨Nat.le_of_ble_eq_true rfl, Nat.le_of_ble_eq_true rfl⟩) rfl rfl (by decide) rfl hl.1 rfl (Nat.le_of_ble_eq_true rfl) hf dL_law_371) hw (fun H locs hw => ?_)
    refine lv_icmp_eq (tgt := 1019) hx hb dL_law_374 (by decide) (fun _ => ?_) (fun c2 => absurd rfl c2)
    exact hk s2 _ _ _ hI2 hw hl

set_option maxRecDepth 100000 in
set_option maxHeartbeats 4000000 in
theorem lwc_fly {p : Program} {l : Launch} {e : Env} {s : State} {m : MethodId} {below : List Frame} {meth : Method} {c : Code} {b L : Nat} {xs : Nat → Int32} {G : Gp} {Inv : St → Prop} (C0 : lw_At p s m meth c b L xs) (hE : Ev G (aw s) s) (hM : MS_fly Inv) {i : Nat} (hi : i + 7 ≤ L) (hL : L ≤ 3584) {cells slots : Nat} (hf : cells ≤ room_1.cells ∧ slots ≤ room_1.slots) (hk : ∀ (σ : St) (H : Heap) (locs : List Loc) (ls : Array Slot), Inv σ → Ww G (aw s) σ s H locs → lv_has ls 4 [(0, .ref b), (1, .ref (ad G 0)), (2, .ref (ad G 72)), (3, .int (nI i))] → W p l e room_1 s m #[Value.ref b] below meth c H locs cells slots (lw_Z below #[Value.ref b] s) (F0 m 1019 ls [])) {σ : St} {H : Heap} {locs : List Loc} {ls : Array Slot} (hI : Inv σ) (hw : Ww G (aw s) σ s H locs) (hl : lv_has ls 4 [(0, .ref b), (1, .ref (ad G 0)), (2, .ref (ad G 72)), (3, .int (nI i))]) : W p l e room_1 s m #[Value.ref b] below meth c H locs cells slots (lw_Z below #[Value.ref b] s) (F0 m 379 ls []) := by
  obtain ⟨hx, hb, hr, hml, hown, hts0, hX, hbl, hlocks, hgv⟩ := C0
  have hts : ∀ w ∈ wsL_law, w.before #[Value.ref b] s = true := fun w h => hts0 w (wsL_law_in w h)
  have SL : CallFix p m c cL_law 4 s #[Value.ref b] wsL_law RL := ⟨hx, hb, hml, hown, hts⟩
  have hbA : ¬ (aw s) b := Nat.not_le.mpr hbl
  refine lv_aload_n hx hb dL_law_379 rfl (lv_at hl 1 rfl) ?_
  refine lv_aload_n hx hb dL_law_380 rfl (lv_at hl 0 rfl) ?_
  refine lv_iload_n hx hb dL_law_381 rfl (lv_at hl 3 rfl) ?_
  refine lv_iconst (v := 1) hx hb dL_law_382 (by decide) ?_
  refine lv_iadd hx hb dL_law_383 ?_
  refine va_sld hx hb hX hbl hbA hw.2.2.1 (scr_in hi hL (k := 1) (by decide)) dL_law_384 ?_
  refine lv_aload_n hx hb dL_law_385 rfl (lv_at hl 0 rfl) ?_
  refine lv_iload_n hx hb dL_law_386 rfl (lv_at hl 3 rfl) ?_
  refine lv_iconst (v := 2) hx hb dL_law_387 (by decide) ?_
  refine lv_iadd hx hb dL_law_388 ?_
  refine va_sld hx hb hX hbl hbA hw.2.2.1 (scr_in hi hL (k := 2) (by decide)) dL_law_389 ?_
  refine lv_aload_n hx hb dL_law_390 rfl (lv_at hl 0 rfl) ?_
  refine lv_iload_n hx hb dL_law_391 rfl (lv_at hl 3 rfl) ?_
  refine lv_iconst (v := 3) hx hb dL_law_392 (by decide) ?_
  refine lv_iadd hx hb dL_law_393 ?_
  refine va_sld hx hb hX hbl hbA hw.2.2.1 (scr_in hi hL (k := 3) (by decide)) dL_law_394 ?_
  refine lv_aload_n hx hb dL_law_395 rfl (lv_at hl 0 rfl) ?_
  refine lv_iload_n hx hb dL_law_396 rfl (lv_at hl 3 rfl) ?_
  refine lv_iconst (v := 4) hx hb dL_law_397 (by decide) ?_
  refine lv_iadd hx hb dL_law_398 ?_
  refine va_sld hx hb hX hbl hbA hw.2.2.1 (scr_in hi hL (k := 4) (by decide)) dL_law_399 ?_
  refine lv_aload_n hx hb dL_law_400 rfl (lv_at hl 0 rfl) ?_
  refine lv_iload_n hx hb dL_law_401 rfl (lv_at hl 3 rfl) ?_
  refine lv_iconst (v := 5) hx hb dL_law_402 (by decide) ?_
  refine lv_iadd hx hb dL_law_403 ?_
  refine va_sld hx hb hX hbl hbA hw.2.2.1 (scr_in hi hL (k := 5) (by decide)) dL_law_404 ?_
  refine lv_aload_n hx hb dL_law_405 rfl (lv_at hl 0 rfl) ?_
  refine lv_iload_n hx hb dL_law_406 rfl (lv_at hl 3 rfl) ?_
  refine lv_bipush (v := 6) hx hb dL_law_407 (by decide) ?_
  refine lv_iadd hx hb dL_law_409 ?_
  refine va_sld hx hb hX hbl hbA hw.2.2.1 (scr_in hi hL (k := 6) (by decide)) dL_law_410 ?_
  obtain ⟨r, s1, s2, g1, g2, hI2⟩ := hM σ hI (xs (nI i + 1).toNatClampNeg) (xs (nI i + 2).toNatClampNeg) (xs (nI i + 3).toNatClampNeg) (xs (nI i + 4).toNatClampNeg) (xs (nI i + 5).toNatClampNeg) (xs (nI i + 6).toNatClampNeg)
  refine r_ci (r_runV (k := 0) (ci := 9) (As := [.int (xs (nI i + 1).toNatClampNeg), .int (xs (nI i + 2).toNatClampNeg), .int (xs (nI i + 3).toNatClampNeg), .int (xs (nI i + 4).toNatClampNeg), .int (xs (nI i + 5).toNatClampNeg), .int (xs (nI i + 6).toNatClampNeg)]) (rest := []) SL hE hw (c_X9_fly l G (aw s) σ (xs (nI i + 1).toNatClampNeg) (xs (nI i + 2).toNatClampNeg) (xs (nI i + 3).toNatClampNeg) (xs (nI i + 4).toNatClampNeg) (xs (nI i + 5).toNatClampNeg) (xs (nI i + 6).toNatClampNeg) g1) (cwV 6 hts gL_law_X9_fly rfl rfl rfl (by decide +kernel) ⟨Nat.le_of_ble_eq_true rfl, Nat.le_of_ble_eq_true rfl⟩) rfl rfl (by decide) rfl hl.1 rfl (Nat.le_of_ble_eq_true rfl) hf dL_law_411) hw (fun H locs hw => ?_)
  refine lv_aload_n hx hb dL_law_414 rfl (lv_at hl 2 rfl) ?_
  refine lv_aload_n hx hb dL_law_415 rfl (lv_at hl 0 rfl) ?_
  refine lv_iload_n hx hb dL_law_416 rfl (lv_at hl 3 rfl) ?_
  refine lv_iconst (v := 1) hx hb dL_law_417 (by decide) ?_
  refine lv_iadd hx hb dL_law_418 ?_
  refine va_sld hx hb hX hbl hbA hw.2.2.1 (scr_in hi hL (k := 1) (by decide)) dL_law_419 ?_
  refine lv_aload_n hx hb dL_law_420 rfl (lv_at hl 0 rfl) ?_
  refine lv_iload_n hx hb dL_law_421 rfl (lv_at hl 3 rfl) ?_
  refine lv_iconst (v := 2) hx hb dL_law_422 (by decide) ?_
  refine lv_iadd hx hb dL_law_423 ?_
  refine va_sld hx hb hX hbl hbA hw.2.2.1 (scr_in hi hL (k := 2) (by decide)) dL_law_424 ?_
  refine lv_aload_n hx hb dL_law_425 rfl (lv_at hl 0 rfl) ?_
  refine lv_iload_n hx hb dL_law_426 rfl (lv_at hl 3 rfl) ?_
  refine lv_iconst (v := 3) hx hb dL_law_427 (by decide) ?_
  refine lv_iadd hx hb dL_law_428 ?_
  refine va_sld hx hb hX hbl hbA hw.2.2.1 (scr_in hi hL (k := 3) (by decide)) dL_law_429 ?_
  refine lv_aload_n hx hb dL_law_430 rfl (lv_at hl 0 rfl) ?_
  refine lv_iload_n hx hb dL_law_431 rfl (lv_at hl 3 rfl) ?_
  refine lv_iconst (v := 4) hx hb dL_law_432 (by decide) ?_
  refine lv_iadd hx hb dL_law_433 ?_
  refine va_sld hx hb hX hbl hbA hw.2.2.1 (scr_in hi hL (k := 4) (by decide)) dL_law_434 ?_
  refine lv_aload_n hx hb dL_law_435 rfl (lv_at hl 0 rfl) ?_
  refine lv_iload_n hx hb dL_law_436 rfl (lv_at hl 3 rfl) ?_
  refine lv_iconst (v := 5) hx hb dL_law_437 (by decide) ?_
  refine lv_iadd hx hb dL_law_438 ?_
  refine va_sld hx hb hX hbl hbA hw.2.2.1 (scr_in hi hL (k := 5) (by decide)) dL_law_439 ?_
  refine lv_aload_n hx hb dL_law_440 rfl (lv_at hl 0 rfl) ?_
  refine lv_iload_n hx hb dL_law_441 rfl (lv_at hl 3 rfl) ?_
  refine lv_bipush (v := 6) hx hb dL_law_442 (by decide) ?_
  refine lv_iadd hx hb dL_law_444 ?_
  refine va_sld hx hb hX hbl hbA hw.2.2.1 (scr_in hi hL (k := 6) (by decide)) dL_law_445 ?_
  refine r_ci (r_runV (k := 72) (ci := 10) (As := [.int (xs (nI i + 1).toNatClampNeg), .int (xs (nI i + 2).toNatClampNeg), .int (xs (nI i + 3).toNatClampNeg), .int (xs (nI i + 4).toNatClampNeg), .int (xs (nI i + 5).toNatClampNeg), .int (xs (nI i + 6).toNatClampNeg)]) (rest := [.int r]) SL hE hw (c_X10_fly l G (aw s) s1 (xs (nI i + 1).toNatClampNeg) (xs (nI i + 2).toNatClampNeg) (xs (nI i + 3).toNatClampNeg) (xs (nI i + 4).toNatClampNeg) (xs (nI i + 5).toNatClampNeg) (xs (nI i + 6).toNatClampNeg) g2) (cwV 6 hts gL_law_X10_fly rfl rfl rfl (by decide +kernel) ⟨Nat.le_of_ble_eq_true rfl, Nat.le_of_ble_eq_true rfl⟩) rfl rfl (by decide) rfl hl.1 rfl (Nat.le_of_ble_eq_true rfl) hf dL_law_446) hw (fun H locs hw => ?_)
  refine lv_icmp_eq (tgt := 1019) hx hb dL_law_449 (by decide) (fun _ => ?_) (fun c2 => absurd rfl c2)
  exact hk s2 _ _ _ hI2 hw hl

set_option maxRecDepth 100000 in
set_option maxHeartbeats 4000000 in
theorem lwc_go {p : Program} {l : Launch} {e : Env} {s : State} {m : MethodId} {below : List Frame} {meth : Method} {c : Code} {b L : Nat} {xs : Nat → Int32} {G : Gp} {Inv : St → Prop} (C0 : lw_At p s m meth c b L xs) (hE : Ev G (aw s) s) (hM : MS_go Inv) {i : Nat} (hi : i + 7 ≤ L) (hL : L ≤ 3584) {cells slots : Nat} (hf : cells ≤ room_1.cells ∧ slots ≤ room_1.slots) (hk : ∀ (σ : St) (H : Heap) (locs : List Loc) (ls : Array Slot), Inv σ → Ww G (aw s) σ s H locs → lv_has ls 4 [(0, .ref b), (1, .ref (ad G 0)), (2, .ref (ad G 72)), (3, .int (nI i))] → W p l e room_1 s m #[Value.ref b] below meth c H locs cells slots (lw_Z below #[Value.ref b] s) (F0 m 1019 ls [])) {σ : St} {H : Heap} {locs : List Loc} {ls : Array Slot} (hI : Inv σ) (hw : Ww G (aw s) σ s H locs) (hl : lv_has ls 4 [(0, .ref b), (1, .ref (ad G 0)), (2, .ref (ad G 72)), (3, .int (nI i))]) : W p l e room_1 s m #[Value.ref b] below meth c H locs cells slots (lw_Z below #[Value.ref b] s) (F0 m 454 ls []) := by
  obtain ⟨hx, hb, hr, hml, hown, hts0, hX, hbl, hlocks, hgv⟩ := C0
  have hts : ∀ w ∈ wsL_law, w.before #[Value.ref b] s = true := fun w h => hts0 w (wsL_law_in w h)
  have SL : CallFix p m c cL_law 4 s #[Value.ref b] wsL_law RL := ⟨hx, hb, hml, hown, hts⟩
  have hbA : ¬ (aw s) b := Nat.not_le.mpr hbl
  refine lv_aload_n hx hb dL_law_454 rfl (lv_at hl 1 rfl) ?_
  refine lv_aload_n hx hb dL_law_455 rfl (lv_at hl 0 rfl) ?_
  refine lv_iload_n hx hb dL_law_456 rfl (lv_at hl 3 rfl) ?_
  refine lv_iconst (v := 1) hx hb dL_law_457 (by decide) ?_
  refine lv_iadd hx hb dL_law_458 ?_
  refine va_sld hx hb hX hbl hbA hw.2.2.1 (scr_in hi hL (k := 1) (by decide)) dL_law_459 ?_
  refine lv_aload_n hx hb dL_law_460 rfl (lv_at hl 0 rfl) ?_
  refine lv_iload_n hx hb dL_law_461 rfl (lv_at hl 3 rfl) ?_
  refine lv_iconst (v := 2) hx hb dL_law_462 (by decide) ?_
  refine lv_iadd hx hb dL_law_463 ?_
  refine va_sld hx hb hX hbl hbA hw.2.2.1 (scr_in hi hL (k := 2) (by decide)) dL_law_464 ?_
  refine lv_aload_n hx hb dL_law_465 rfl (lv_at hl 0 rfl) ?_
  refine lv_iload_n hx hb dL_law_466 rfl (lv_at hl 3 rfl) ?_
  refine lv_iconst (v := 3) hx hb dL_law_467 (by decide) ?_
  refine lv_iadd hx hb dL_law_468 ?_
  refine va_sld hx hb hX hbl hbA hw.2.2.1 (scr_in hi hL (k := 3) (by decide)) dL_law_469 ?_
  refine lv_aload_n hx hb dL_law_470 rfl (lv_at hl 0 rfl) ?_
  refine lv_iload_n hx hb dL_law_471 rfl (lv_at hl 3 rfl) ?_
  refine lv_iconst (v := 4) hx hb dL_law_472 (by decide) ?_
  refine lv_iadd hx hb dL_law_473 ?_
  refine va_sld hx hb hX hbl hbA hw.2.2.1 (scr_in hi hL (k := 4) (by decide)) dL_law_474 ?_
  obtain ⟨r, s1, s2, g1, g2, hI2⟩ := hM σ hI (xs (nI i + 1).toNatClampNeg) (xs (nI i + 2).toNatClampNeg) (xs (nI i + 3).toNatClampNeg) (xs (nI i + 4).toNatClampNeg)
  refine r_ci (r_runV (k := 0) (ci := 9) (As := [.int (xs (nI i + 1).toNatClampNeg), .int (xs (nI i + 2).toNatClampNeg), .int (xs (nI i + 3).toNatClampNeg), .int (xs (nI i + 4).toNatClampNeg)]) (rest := []) SL hE hw (c_X9_go l G (aw s) σ (xs (nI i + 1).toNatClampNeg) (xs (nI i + 2).toNatClampNeg) (xs (nI i + 3).toNatClampNeg) (xs (nI i + 4).toNatClampNeg) g1) (cwV 4 hts gL_law_X9_go rfl rfl rfl (by decide +kernel) ⟨Nat.le_of_ble_eq_true rfl, Nat.le_of_ble_eq_true rfl⟩) rfl rfl (by decide) rfl hl.1 rfl (Nat.le_of_ble_eq_true rfl) hf dL_law_475) hw (fun H locs hw => ?_)
  refine lv_aload_n hx hb dL_law_478 rfl (lv_at hl 2 rfl) ?_
  refine lv_aload_n hx hb dL_law_479 rfl (lv_at hl 0 rfl) ?_
  refine lv_iload_n hx hb dL_law_480 rfl (lv_at hl 3 rfl) ?_
  refine lv_iconst (v := 1) hx hb dL_law_481 (by decide) ?_
  refine lv_iadd hx hb dL_law_482 ?_
  refine va_sld hx hb hX hbl hbA hw.2.2.1 (scr_in hi hL (k := 1) (by decide)) dL_law_483 ?_
  refine lv_aload_n hx hb dL_law_484 rfl (lv_at hl 0 rfl) ?_
  refine lv_iload_n hx hb dL_law_485 rfl (lv_at hl 3 rfl) ?_
  refine lv_iconst (v := 2) hx hb dL_law_486 (by decide) ?_
  refine lv_iadd hx hb dL_law_487 ?_
  refine va_sld hx hb hX hbl hbA hw.2.2.1 (scr_in hi hL (k := 2) (by decide)) dL_law_488 ?_
  refine lv_aload_n hx hb dL_law_489 rfl (lv_at hl 0 rfl) ?_
  refine lv_iload_n hx hb dL_law_490 rfl (lv_at hl 3 rfl) ?_
  refine lv_iconst (v := 3) hx hb dL_law_491 (by decide) ?_
  refine lv_iadd hx hb dL_law_492 ?_
  refine va_sld hx hb hX hbl hbA hw.2.2.1 (scr_in hi hL (k := 3) (by decide)) dL_law_493 ?_
  refine lv_aload_n hx hb dL_law_494 rfl (lv_at hl 0 rfl) ?_
  refine lv_iload_n hx hb dL_law_495 rfl (lv_at hl 3 rfl) ?_
  refine lv_iconst (v := 4) hx hb dL_law_496 (by decide) ?_
  refine lv_iadd hx hb dL_law_497 ?_
  refine va_sld hx hb hX hbl hbA hw.2.2.1 (scr_in hi hL (k := 4) (by decide)) dL_law_498 ?_
  refine r_ci (r_runV (k := 72) (ci := 10) (As := [.int (xs (nI i + 1).toNatClampNeg), .int (xs (nI i + 2).toNatClampNeg), .int (xs (nI i + 3).toNatClampNeg), .int (xs (nI i + 4).toNatClampNeg)]) (rest := [.int r]) SL hE hw (c_X10_go l G (aw s) s1 (xs (nI i + 1).toNatClampNeg) (xs (nI i + 2).toNatClampNeg) (xs (nI i + 3).toNatClampNeg) (xs (nI i + 4).toNatClampNeg) g2) (cwV 4 hts gL_law_X10_go rfl rfl rfl (by decide +kernel) ⟨Nat.le_of_ble_eq_true rfl, Nat.le_of_ble_eq_true rfl⟩) rfl rfl (by decide) rfl hl.1 rfl (Nat.le_of_ble_eq_true rfl) hf dL_law_499) hw (fun H locs hw => ?_)
  refine lv_icmp_eq (tgt := 1019) hx hb dL_law_502 (by decide) (fun _ => ?_) (fun c2 => absurd rfl c2)
  exact hk s2 _ _ _ hI2 hw hl

set_option maxRecDepth 100000 in
set_option maxHeartbeats 4000000 in
theorem lwc_about {p : Program} {l : Launch} {e : Env} {s : State} {m : MethodId} {below : List Frame} {meth : Method} {c : Code} {b L : Nat} {xs : Nat → Int32} {G : Gp} {Inv : St → Prop} (C0 : lw_At p s m meth c b L xs) (hE : Ev G (aw s) s) (hM : MS_about Inv) {i : Nat} (hi : i + 7 ≤ L) (hL : L ≤ 3584) {cells slots : Nat} (hf : cells ≤ room_1.cells ∧ slots ≤ room_1.slots) (hk : ∀ (σ : St) (H : Heap) (locs : List Loc) (ls : Array Slot), Inv σ → Ww G (aw s) σ s H locs → lv_has ls 4 [(0, .ref b), (1, .ref (ad G 0)), (2, .ref (ad G 72)), (3, .int (nI i))] → W p l e room_1 s m #[Value.ref b] below meth c H locs cells slots (lw_Z below #[Value.ref b] s) (F0 m 1019 ls [])) {σ : St} {H : Heap} {locs : List Loc} {ls : Array Slot} (hI : Inv σ) (hw : Ww G (aw s) σ s H locs) (hl : lv_has ls 4 [(0, .ref b), (1, .ref (ad G 0)), (2, .ref (ad G 72)), (3, .int (nI i))]) : W p l e room_1 s m #[Value.ref b] below meth c H locs cells slots (lw_Z below #[Value.ref b] s) (F0 m 507 ls []) := by
  obtain ⟨hx, hb, hr, hml, hown, hts0, hX, hbl, hlocks, hgv⟩ := C0
  have hts : ∀ w ∈ wsL_law, w.before #[Value.ref b] s = true := fun w h => hts0 w (wsL_law_in w h)
  have SL : CallFix p m c cL_law 4 s #[Value.ref b] wsL_law RL := ⟨hx, hb, hml, hown, hts⟩
  have hbA : ¬ (aw s) b := Nat.not_le.mpr hbl
  refine lv_aload_n hx hb dL_law_507 rfl (lv_at hl 1 rfl) ?_
  refine lv_aload_n hx hb dL_law_508 rfl (lv_at hl 0 rfl) ?_
  refine lv_iload_n hx hb dL_law_509 rfl (lv_at hl 3 rfl) ?_
  refine lv_iconst (v := 1) hx hb dL_law_510 (by decide) ?_
  refine lv_iadd hx hb dL_law_511 ?_
  refine va_sld hx hb hX hbl hbA hw.2.2.1 (scr_in hi hL (k := 1) (by decide)) dL_law_512 ?_
  refine lv_aload_n hx hb dL_law_513 rfl (lv_at hl 0 rfl) ?_
  refine lv_iload_n hx hb dL_law_514 rfl (lv_at hl 3 rfl) ?_
  refine lv_iconst (v := 2) hx hb dL_law_515 (by decide) ?_
  refine lv_iadd hx hb dL_law_516 ?_
  refine va_sld hx hb hX hbl hbA hw.2.2.1 (scr_in hi hL (k := 2) (by decide)) dL_law_517 ?_
  obtain ⟨r, g1, g2, hI2⟩ := hM σ hI (xs (nI i + 1).toNatClampNeg) (xs (nI i + 2).toNatClampNeg)
  refine r_ci (r_runV (k := 0) (ci := 9) (As := [.int (xs (nI i + 1).toNatClampNeg), .int (xs (nI i + 2).toNatClampNeg)]) (rest := []) SL hE hw (c_X9_about l G (aw s) σ (xs (nI i + 1).toNatClampNeg) (xs (nI i + 2).toNatClampNeg) g1) (cwV 2 hts gL_law_X9_about rfl rfl rfl (by decide +kernel) ⟨Nat.le_of_ble_eq_true rfl, Nat.le_of_ble_eq_true rfl⟩) rfl rfl (by decide) rfl hl.1 rfl (Nat.le_of_ble_eq_true rfl) hf dL_law_518) hw (fun H locs hw => ?_)
  refine lv_aload_n hx hb dL_law_521 rfl (lv_at hl 2 rfl) ?_
  refine lv_aload_n hx hb dL_law_522 rfl (lv_at hl 0 rfl) ?_
  refine lv_iload_n hx hb dL_law_523 rfl (lv_at hl 3 rfl) ?_
  refine lv_iconst (v := 1) hx hb dL_law_524 (by decide) ?_
  refine lv_iadd hx hb dL_law_525 ?_
  refine va_sld hx hb hX hbl hbA hw.2.2.1 (scr_in hi hL (k := 1) (by decide)) dL_law_526 ?_
  refine lv_aload_n hx hb dL_law_527 rfl (lv_at hl 0 rfl) ?_
  refine lv_iload_n hx hb dL_law_528 rfl (lv_at hl 3 rfl) ?_
  refine lv_iconst (v := 2) hx hb dL_law_529 (by decide) ?_
  refine lv_iadd hx hb dL_law_530 ?_
  refine va_sld hx hb hX hbl hbA hw.2.2.1 (scr_in hi hL (k := 2) (by decide)) dL_law_531 ?_
  refine r_ci (r_runV (k := 72) (ci := 10) (As := [.int (xs (nI i + 1).toNatClampNeg), .int (xs (nI i + 2).toNatClampNeg)]) (rest := [.int r]) SL hE hw (c_X10_about l G (aw s) σ (xs (nI i + 1).toNatClampNeg) (xs (nI i + 2).toNatClampNeg) g2) (cwV 2 hts gL_law_X10_about rfl rfl rfl (by decide +kernel) ⟨Nat.le_of_ble_eq_true rfl, Nat.le_of_ble_eq_true rfl⟩) rfl rfl (by decide) rfl hl.1 rfl (Nat.le_of_ble_eq_true rfl) hf dL_law_532) hw (fun H locs hw => ?_)
  refine lv_icmp_eq (tgt := 1019) hx hb dL_law_535 (by decide) (fun _ => ?_) (fun c2 => absurd rfl c2)
  exact hk σ _ _ _ hI2 hw hl

set_option maxRecDepth 100000 in
set_option maxHeartbeats 4000000 in
theorem lwc_distance {p : Program} {l : Launch} {e : Env} {s : State} {m : MethodId} {below : List Frame} {meth : Method} {c : Code} {b L : Nat} {xs : Nat → Int32} {G : Gp} {Inv : St → Prop} (C0 : lw_At p s m meth c b L xs) (hE : Ev G (aw s) s) (hM : MS_distance Inv) {i : Nat} (hi : i + 7 ≤ L) (hL : L ≤ 3584) {cells slots : Nat} (hf : cells ≤ room_1.cells ∧ slots ≤ room_1.slots) (hk : ∀ (σ : St) (H : Heap) (locs : List Loc) (ls : Array Slot), Inv σ → Ww G (aw s) σ s H locs → lv_has ls 4 [(0, .ref b), (1, .ref (ad G 0)), (2, .ref (ad G 72)), (3, .int (nI i))] → W p l e room_1 s m #[Value.ref b] below meth c H locs cells slots (lw_Z below #[Value.ref b] s) (F0 m 1019 ls [])) {σ : St} {H : Heap} {locs : List Loc} {ls : Array Slot} (hI : Inv σ) (hw : Ww G (aw s) σ s H locs) (hl : lv_has ls 4 [(0, .ref b), (1, .ref (ad G 0)), (2, .ref (ad G 72)), (3, .int (nI i))]) : W p l e room_1 s m #[Value.ref b] below meth c H locs cells slots (lw_Z below #[Value.ref b] s) (F0 m 540 ls []) := by
  obtain ⟨hx, hb, hr, hml, hown, hts0, hX, hbl, hlocks, hgv⟩ := C0
  have hts : ∀ w ∈ wsL_law, w.before #[Value.ref b] s = true := fun w h => hts0 w (wsL_law_in w h)
  have SL : CallFix p m c cL_law 4 s #[Value.ref b] wsL_law RL := ⟨hx, hb, hml, hown, hts⟩
  have hbA : ¬ (aw s) b := Nat.not_le.mpr hbl
  refine lv_aload_n hx hb dL_law_540 rfl (lv_at hl 1 rfl) ?_
  refine lv_aload_n hx hb dL_law_541 rfl (lv_at hl 0 rfl) ?_
  refine lv_iload_n hx hb dL_law_542 rfl (lv_at hl 3 rfl) ?_
  refine lv_iconst (v := 1) hx hb dL_law_543 (by decide) ?_
  refine lv_iadd hx hb dL_law_544 ?_
  refine va_sld hx hb hX hbl hbA hw.2.2.1 (scr_in hi hL (k := 1) (by decide)) dL_law_545 ?_
  obtain ⟨r, g1, g2, hI2⟩ := hM σ hI (xs (nI i + 1).toNatClampNeg)
  refine r_ci (r_runV (k := 0) (ci := 9) (As := [.int (xs (nI i + 1).toNatClampNeg)]) (rest := []) SL hE hw (c_X9_distance l G (aw s) σ (xs (nI i + 1).toNatClampNeg) g1) (cwV 1 hts gL_law_X9_distance rfl rfl rfl (by decide +kernel) ⟨Nat.le_of_ble_eq_true rfl, Nat.le_of_ble_eq_true rfl⟩) rfl rfl (by decide) rfl hl.1 rfl (Nat.le_of_ble_eq_true rfl) hf dL_law_546) hw (fun H locs hw => ?_)
  refine lv_aload_n hx hb dL_law_549 rfl (lv_at hl 2 rfl) ?_
  refine lv_aload_n hx hb dL_law_550 rfl (lv_at hl 0 rfl) ?_
  refine lv_iload_n hx hb dL_law_551 rfl (lv_at hl 3 rfl) ?_
  refine lv_iconst (v := 1) hx hb dL_law_552 (by decide) ?_
  refine lv_iadd hx hb dL_law_553 ?_
  refine va_sld hx hb hX hbl hbA hw.2.2.1 (scr_in hi hL (k := 1) (by decide)) dL_law_554 ?_
  refine r_ci (r_runV (k := 72) (ci := 10) (As := [.int (xs (nI i + 1).toNatClampNeg)]) (rest := [.int r]) SL hE hw (c_X10_distance l G (aw s) σ (xs (nI i + 1).toNatClampNeg) g2) (cwV 1 hts gL_law_X10_distance rfl rfl rfl (by decide +kernel) ⟨Nat.le_of_ble_eq_true rfl, Nat.le_of_ble_eq_true rfl⟩) rfl rfl (by decide) rfl hl.1 rfl (Nat.le_of_ble_eq_true rfl) hf dL_law_555) hw (fun H locs hw => ?_)
  refine lv_icmp_eq (tgt := 1019) hx hb dL_law_558 (by decide) (fun _ => ?_) (fun c2 => absurd rfl c2)
  exact hk σ _ _ _ hI2 hw hl

set_option maxRecDepth 100000 in
set_option maxHeartbeats 4000000 in
theorem lwc_plan {p : Program} {l : Launch} {e : Env} {s : State} {m : MethodId} {below : List Frame} {meth : Method} {c : Code} {b L : Nat} {xs : Nat → Int32} {G : Gp} {Inv : St → Prop} (C0 : lw_At p s m meth c b L xs) (hE : Ev G (aw s) s) (hM : MS_plan Inv) {i : Nat} (hi : i + 7 ≤ L) (hL : L ≤ 3584) {cells slots : Nat} (hf : cells ≤ room_1.cells ∧ slots ≤ room_1.slots) (hk : ∀ (σ : St) (H : Heap) (locs : List Loc) (ls : Array Slot), Inv σ → Ww G (aw s) σ s H locs → lv_has ls 4 [(0, .ref b), (1, .ref (ad G 0)), (2, .ref (ad G 72)), (3, .int (nI i))] → W p l e room_1 s m #[Value.ref b] below meth c H locs cells slots (lw_Z below #[Value.ref b] s) (F0 m 1019 ls [])) {σ : St} {H : Heap} {locs : List Loc} {ls : Array Slot} (hI : Inv σ) (hw : Ww G (aw s) σ s H locs) (hl : lv_has ls 4 [(0, .ref b), (1, .ref (ad G 0)), (2, .ref (ad G 72)), (3, .int (nI i))]) : W p l e room_1 s m #[Value.ref b] below meth c H locs cells slots (lw_Z below #[Value.ref b] s) (F0 m 563 ls []) := by
  obtain ⟨hx, hb, hr, hml, hown, hts0, hX, hbl, hlocks, hgv⟩ := C0
  have hts : ∀ w ∈ wsL_law, w.before #[Value.ref b] s = true := fun w h => hts0 w (wsL_law_in w h)
  have SL : CallFix p m c cL_law 4 s #[Value.ref b] wsL_law RL := ⟨hx, hb, hml, hown, hts⟩
  have hbA : ¬ (aw s) b := Nat.not_le.mpr hbl
  refine lv_aload_n hx hb dL_law_563 rfl (lv_at hl 1 rfl) ?_
  refine lv_aload_n hx hb dL_law_564 rfl (lv_at hl 0 rfl) ?_
  refine lv_iload_n hx hb dL_law_565 rfl (lv_at hl 3 rfl) ?_
  refine lv_iconst (v := 1) hx hb dL_law_566 (by decide) ?_
  refine lv_iadd hx hb dL_law_567 ?_
  refine va_sld hx hb hX hbl hbA hw.2.2.1 (scr_in hi hL (k := 1) (by decide)) dL_law_568 ?_
  refine lv_aload_n hx hb dL_law_569 rfl (lv_at hl 0 rfl) ?_
  refine lv_iload_n hx hb dL_law_570 rfl (lv_at hl 3 rfl) ?_
  refine lv_iconst (v := 2) hx hb dL_law_571 (by decide) ?_
  refine lv_iadd hx hb dL_law_572 ?_
  refine va_sld hx hb hX hbl hbA hw.2.2.1 (scr_in hi hL (k := 2) (by decide)) dL_law_573 ?_
  refine lv_aload_n hx hb dL_law_574 rfl (lv_at hl 0 rfl) ?_
  refine lv_iload_n hx hb dL_law_575 rfl (lv_at hl 3 rfl) ?_
  refine lv_iconst (v := 3) hx hb dL_law_576 (by decide) ?_
  refine lv_iadd hx hb dL_law_577 ?_
  refine va_sld hx hb hX hbl hbA hw.2.2.1 (scr_in hi hL (k := 3) (by decide)) dL_law_578 ?_
  refine lv_aload_n hx hb dL_law_579 rfl (lv_at hl 0 rfl) ?_
  refine lv_iload_n hx hb dL_law_580 rfl (lv_at hl 3 rfl) ?_
  refine lv_iconst (v := 4) hx hb dL_law_581 (by decide) ?_
  refine lv_iadd hx hb dL_law_582 ?_
  refine va_sld hx hb hX hbl hbA hw.2.2.1 (scr_in hi hL (k := 4) (by decide)) dL_law_583 ?_
  refine lv_aload_n hx hb dL_law_584 rfl (lv_at hl 0 rfl) ?_
  refine lv_iload_n hx hb dL_law_585 rfl (lv_at hl 3 rfl) ?_
  refine lv_iconst (v := 5) hx hb dL_law_586 (by decide) ?_
  refine lv_iadd hx hb dL_law_587 ?_
  refine va_sld hx hb hX hbl hbA hw.2.2.1 (scr_in hi hL (k := 5) (by decide)) dL_law_588 ?_
  obtain ⟨r, s1, s2, g1, g2, hI2⟩ := hM σ hI (xs (nI i + 1).toNatClampNeg) (xs (nI i + 2).toNatClampNeg) (xs (nI i + 3).toNatClampNeg) (xs (nI i + 4).toNatClampNeg) (xs (nI i + 5).toNatClampNeg)
  refine r_ci (r_runV (k := 0) (ci := 9) (As := [.int (xs (nI i + 1).toNatClampNeg), .int (xs (nI i + 2).toNatClampNeg), .int (xs (nI i + 3).toNatClampNeg), .int (xs (nI i + 4).toNatClampNeg), .int (xs (nI i + 5).toNatClampNeg)]) (rest := []) SL hE hw (c_X9_plan l G (aw s) σ (xs (nI i + 1).toNatClampNeg) (xs (nI i + 2).toNatClampNeg) (xs (nI i + 3).toNatClampNeg) (xs (nI i + 4).toNatClampNeg) (xs (nI i + 5).toNatClampNeg) g1) (cwV 5 hts gL_law_X9_plan rfl rfl rfl (by decide +kernel) ⟨Nat.le_of_ble_eq_true rfl, Nat.le_of_ble_eq_true rfl⟩) rfl rfl (by decide) rfl hl.1 rfl (Nat.le_of_ble_eq_true rfl) hf dL_law_589) hw (fun H locs hw => ?_)
  refine lv_aload_n hx hb dL_law_592 rfl (lv_at hl 2 rfl) ?_
  refine lv_aload_n hx hb dL_law_593 rfl (lv_at hl 0 rfl) ?_
  refine lv_iload_n hx hb dL_law_594 rfl (lv_at hl 3 rfl) ?_
  refine lv_iconst (v := 1) hx hb dL_law_595 (by decide) ?_
  refine lv_iadd hx hb dL_law_596 ?_
  refine va_sld hx hb hX hbl hbA hw.2.2.1 (scr_in hi hL (k := 1) (by decide)) dL_law_597 ?_
  refine lv_aload_n hx hb dL_law_598 rfl (lv_at hl 0 rfl) ?_
  refine lv_iload_n hx hb dL_law_599 rfl (lv_at hl 3 rfl) ?_
  refine lv_iconst (v := 2) hx hb dL_law_600 (by decide) ?_
  refine lv_iadd hx hb dL_law_601 ?_
  refine va_sld hx hb hX hbl hbA hw.2.2.1 (scr_in hi hL (k := 2) (by decide)) dL_law_602 ?_
  refine lv_aload_n hx hb dL_law_603 rfl (lv_at hl 0 rfl) ?_
  refine lv_iload_n hx hb dL_law_604 rfl (lv_at hl 3 rfl) ?_
  refine lv_iconst (v := 3) hx hb dL_law_605 (by decide) ?_
  refine lv_iadd hx hb dL_law_606 ?_
  refine va_sld hx hb hX hbl hbA hw.2.2.1 (scr_in hi hL (k := 3) (by decide)) dL_law_607 ?_
  refine lv_aload_n hx hb dL_law_608 rfl (lv_at hl 0 rfl) ?_
  refine lv_iload_n hx hb dL_law_609 rfl (lv_at hl 3 rfl) ?_
  refine lv_iconst (v := 4) hx hb dL_law_610 (by decide) ?_
  refine lv_iadd hx hb dL_law_611 ?_
  refine va_sld hx hb hX hbl hbA hw.2.2.1 (scr_in hi hL (k := 4) (by decide)) dL_law_612 ?_
  refine lv_aload_n hx hb dL_law_613 rfl (lv_at hl 0 rfl) ?_
  refine lv_iload_n hx hb dL_law_614 rfl (lv_at hl 3 rfl) ?_
  refine lv_iconst (v := 5) hx hb dL_law_615 (by decide) ?_
  refine lv_iadd hx hb dL_law_616 ?_
  refine va_sld hx hb hX hbl hbA hw.2.2.1 (scr_in hi hL (k := 5) (by decide)) dL_law_617 ?_
  refine r_ci (r_runV (k := 72) (ci := 10) (As := [.int (xs (nI i + 1).toNatClampNeg), .int (xs (nI i + 2).toNatClampNeg), .int (xs (nI i + 3).toNatClampNeg), .int (xs (nI i + 4).toNatClampNeg), .int (xs (nI i + 5).toNatClampNeg)]) (rest := [.int r]) SL hE hw (c_X10_plan l G (aw s) s1 (xs (nI i + 1).toNatClampNeg) (xs (nI i + 2).toNatClampNeg) (xs (nI i + 3).toNatClampNeg) (xs (nI i + 4).toNatClampNeg) (xs (nI i + 5).toNatClampNeg) g2) (cwV 5 hts gL_law_X10_plan rfl rfl rfl (by decide +kernel) ⟨Nat.le_of_ble_eq_true rfl, Nat.le_of_ble_eq_true rfl⟩) rfl rfl (by decide) rfl hl.1 rfl (Nat.le_of_ble_eq_true rfl) hf dL_law_618) hw (fun H locs hw => ?_)
  refine lv_icmp_eq (tgt := 1019) hx hb dL_law_621 (by decide) (fun _ => ?_) (fun c2 => absurd rfl c2)
  exact hk s2 _ _ _ hI2 hw hl

set_option maxRecDepth 100000 in
set_option maxHeartbeats 4000000 in
theorem lwc_away {p : Program} {l : Launch} {e : Env} {s : State} {m : MethodId} {below : List Frame} {meth : Method} {c : Code} {b L : Nat} {xs : Nat → Int32} {G : Gp} {Inv : St → Prop} (C0 : lw_At p s m meth c b L xs) (hE : Ev G (aw s) s) (hM : MS_away Inv) {i : Nat} (hi : i + 7 ≤ L) (hL : L ≤ 3584) {cells slots : Nat} (hf : cells ≤ room_1.cells ∧ slots ≤ room_1.slots) (hk : ∀ (σ : St) (H : Heap) (locs : List Loc) (ls : Array Slot), Inv σ → Ww G (aw s) σ s H locs → lv_has ls 4 [(0, .ref b), (1, .ref (ad G 0)), (2, .ref (ad G 72)), (3, .int (nI i))] → W p l e room_1 s m #[Value.ref b] below meth c H locs cells slots (lw_Z below #[Value.ref b] s) (F0 m 1019 ls [])) {σ : St} {H : Heap} {locs : List Loc} {ls : Array Slot} (hI : Inv σ) (hw : Ww G (aw s) σ s H locs) (hl : lv_has ls 4 [(0, .ref b), (1, .ref (ad G 0)), (2, .ref (ad G 72)), (3, .int (nI i))]) : W p l e room_1 s m #[Value.ref b] below meth c H locs cells slots (lw_Z below #[Value.ref b] s) (F0 m 626 ls []) := by
  obtain ⟨hx, hb, hr, hml, hown, hts0, hX, hbl, hlocks, hgv⟩ := C0
  have hts : ∀ w ∈ wsL_law, w.before #[Value.ref b] s = true := fun w h => hts0 w (wsL_law_in w h)
  have SL : CallFix p m c cL_law 4 s #[Value.ref b] wsL_law RL := ⟨hx, hb, hml, hown, hts⟩
  have hbA : ¬ (aw s) b := Nat.not_le.mpr hbl
  refine lv_aload_n hx hb dL_law_626 rfl (lv_at hl 1 rfl) ?_
  refine lv_aload_n hx hb dL_law_627 rfl (lv_at hl 0 rfl) ?_
  refine lv_iload_n hx hb dL_law_628 rfl (lv_at hl 3 rfl) ?_
  refine lv_iconst (v := 1) hx hb dL_law_629 (by decide) ?_
  refine lv_iadd hx hb dL_law_630 ?_
  refine va_sld hx hb hX hbl hbA hw.2.2.1 (scr_in hi hL (k := 1) (by decide)) dL_law_631 ?_
  refine lv_aload_n hx hb dL_law_632 rfl (lv_at hl 0 rfl) ?_
  refine lv_iload_n hx hb dL_law_633 rfl (lv_at hl 3 rfl) ?_
  refine lv_iconst (v := 2) hx hb dL_law_634 (by decide) ?_
  refine lv_iadd hx hb dL_law_635 ?_
  refine va_sld hx hb hX hbl hbA hw.2.2.1 (scr_in hi hL (k := 2) (by decide)) dL_law_636 ?_
  refine lv_aload_n hx hb dL_law_637 rfl (lv_at hl 0 rfl) ?_
  refine lv_iload_n hx hb dL_law_638 rfl (lv_at hl 3 rfl) ?_
  refine lv_iconst (v := 3) hx hb dL_law_639 (by decide) ?_
  refine lv_iadd hx hb dL_law_640 ?_
  refine va_sld hx hb hX hbl hbA hw.2.2.1 (scr_in hi hL (k := 3) (by decide)) dL_law_641 ?_
  obtain ⟨r, s1, s2, g1, g2, hI2⟩ := hM σ hI (xs (nI i + 1).toNatClampNeg) (xs (nI i + 2).toNatClampNeg) (xs (nI i + 3).toNatClampNeg)
  refine r_ci (r_runV (k := 0) (ci := 9) (As := [.int (xs (nI i + 1).toNatClampNeg), .int (xs (nI i + 2).toNatClampNeg), .int (xs (nI i + 3).toNatClampNeg)]) (rest := []) SL hE hw (c_X9_away l G (aw s) σ (xs (nI i + 1).toNatClampNeg) (xs (nI i + 2).toNatClampNeg) (xs (nI i + 3).toNatClampNeg) g1) (cwV 3 hts gL_law_X9_away rfl rfl rfl (by decide +kernel) ⟨Nat.le_of_ble_eq_true rfl, Nat.le_of_ble_eq_true rfl⟩) rfl rfl (by decide) rfl hl.1 rfl (Nat.le_of_ble_eq_true rfl) hf dL_law_642) hw (fun H locs hw => ?_)
  refine lv_aload_n hx hb dL_law_645 rfl (lv_at hl 2 rfl) ?_
  refine lv_aload_n hx hb dL_law_646 rfl (lv_at hl 0 rfl) ?_
  refine lv_iload_n hx hb dL_law_647 rfl (lv_at hl 3 rfl) ?_
  refine lv_iconst (v := 1) hx hb dL_law_648 (by decide) ?_
  refine lv_iadd hx hb dL_law_649 ?_
  refine va_sld hx hb hX hbl hbA hw.2.2.1 (scr_in hi hL (k := 1) (by decide)) dL_law_650 ?_
  refine lv_aload_n hx hb dL_law_651 rfl (lv_at hl 0 rfl) ?_
  refine lv_iload_n hx hb dL_law_652 rfl (lv_at hl 3 rfl) ?_
  refine lv_iconst (v := 2) hx hb dL_law_653 (by decide) ?_
  refine lv_iadd hx hb dL_law_654 ?_
  refine va_sld hx hb hX hbl hbA hw.2.2.1 (scr_in hi hL (k := 2) (by decide)) dL_law_655 ?_
  refine lv_aload_n hx hb dL_law_656 rfl (lv_at hl 0 rfl) ?_
  refine lv_iload_n hx hb dL_law_657 rfl (lv_at hl 3 rfl) ?_
  refine lv_iconst (v := 3) hx hb dL_law_658 (by decide) ?_
  refine lv_iadd hx hb dL_law_659 ?_
  refine va_sld hx hb hX hbl hbA hw.2.2.1 (scr_in hi hL (k := 3) (by decide)) dL_law_660 ?_
  refine r_ci (r_runV (k := 72) (ci := 10) (As := [.int (xs (nI i + 1).toNatClampNeg), .int (xs (nI i + 2).toNatClampNeg), .int (xs (nI i + 3).toNatClampNeg)]) (rest := [.int r]) SL hE hw (c_X10_away l G (aw s) s1 (xs (nI i + 1).toNatClampNeg) (xs (nI i + 2).toNatClampNeg) (xs (nI i + 3).toNatClampNeg) g2) (cwV 3 hts gL_law_X10_away rfl rfl rfl (by decide +kernel) ⟨Nat.le_of_ble_eq_true rfl, Nat.le_of_ble_eq_true rfl⟩) rfl rfl (by decide) rfl hl.1 rfl (Nat.le_of_ble_eq_true rfl) hf dL_law_661) hw (fun H locs hw => ?_)
  refine lv_icmp_eq (tgt := 1019) hx hb dL_law_664 (by decide) (fun _ => ?_) (fun c2 => absurd rfl c2)
  exact hk s2 _ _ _ hI2 hw hl

set_option maxRecDepth 100000 in
set_option maxHeartbeats 4000000 in
theorem lwc_order {p : Program} {l : Launch} {e : Env} {s : State} {m : MethodId} {below : List Frame} {meth : Method} {c : Code} {b L : Nat} {xs : Nat → Int32} {G : Gp} {Inv : St → Prop} (C0 : lw_At p s m meth c b L xs) (hE : Ev G (aw s) s) (hM : MS_order Inv) {i : Nat} (hi : i + 7 ≤ L) (hL : L ≤ 3584) {cells slots : Nat} (hf : cells ≤ room_1.cells ∧ slots ≤ room_1.slots) (hk : ∀ (σ : St) (H : Heap) (locs : List Loc) (ls : Array Slot), Inv σ → Ww G (aw s) σ s H locs → lv_has ls 4 [(0, .ref b), (1, .ref (ad G 0)), (2, .ref (ad G 72)), (3, .int (nI i))] → W p l e room_1 s m #[Value.ref b] below meth c H locs cells slots (lw_Z below #[Value.ref b] s) (F0 m 1019 ls [])) {σ : St} {H : Heap} {locs : List Loc} {ls : Array Slot} (hI : Inv σ) (hw : Ww G (aw s) σ s H locs) (hl : lv_has ls 4 [(0, .ref b), (1, .ref (ad G 0)), (2, .ref (ad G 72)), (3, .int (nI i))]) : W p l e room_1 s m #[Value.ref b] below meth c H locs cells slots (lw_Z below #[Value.ref b] s) (F0 m 669 ls []) := by
  obtain ⟨hx, hb, hr, hml, hown, hts0, hX, hbl, hlocks, hgv⟩ := C0
  have hts : ∀ w ∈ wsL_law, w.before #[Value.ref b] s = true := fun w h => hts0 w (wsL_law_in w h)
  have SL : CallFix p m c cL_law 4 s #[Value.ref b] wsL_law RL := ⟨hx, hb, hml, hown, hts⟩
  have hbA : ¬ (aw s) b := Nat.not_le.mpr hbl
  refine lv_aload_n hx hb dL_law_669 rfl (lv_at hl 1 rfl) ?_
  refine lv_aload_n hx hb dL_law_670 rfl (lv_at hl 0 rfl) ?_
  refine lv_iload_n hx hb dL_law_671 rfl (lv_at hl 3 rfl) ?_
  refine lv_iconst (v := 1) hx hb dL_law_672 (by decide) ?_
  refine lv_iadd hx hb dL_law_673 ?_
  refine va_sld hx hb hX hbl hbA hw.2.2.1 (scr_in hi hL (k := 1) (by decide)) dL_law_674 ?_
  obtain ⟨r, g1, g2, hI2⟩ := hM σ hI (xs (nI i + 1).toNatClampNeg)
  refine r_ci (r_runV (k := 0) (ci := 9) (As := [.int (xs (nI i + 1).toNatClampNeg)]) (rest := []) SL hE hw (c_X9_order l G (aw s) σ (xs (nI i + 1).toNatClampNeg) g1) (cwV 1 hts gL_law_X9_order rfl rfl rfl (by decide +kernel) ⟨Nat.le_of_ble_eq_true rfl, Nat.le_of_ble_eq_true rfl⟩) rfl rfl (by decide) rfl hl.1 rfl (Nat.le_of_ble_eq_true rfl) hf dL_law_675) hw (fun H locs hw => ?_)
  refine lv_aload_n hx hb dL_law_678 rfl (lv_at hl 2 rfl) ?_
  refine lv_aload_n hx hb dL_law_679 rfl (lv_at hl 0 rfl) ?_
  refine lv_iload_n hx hb dL_law_680 rfl (lv_at hl 3 rfl) ?_
  refine lv_iconst (v := 1) hx hb dL_law_681 (by decide) ?_
  refine lv_iadd hx hb dL_law_682 ?_
  refine va_sld hx hb hX hbl hbA hw.2.2.1 (scr_in hi hL (k := 1) (by decide)) dL_law_683 ?_
  refine r_ci (r_runV (k := 72) (ci := 10) (As := [.int (xs (nI i + 1).toNatClampNeg)]) (rest := [.int r]) SL hE hw (c_X10_order l G (aw s) σ (xs (nI i + 1).toNatClampNeg) g2) (cwV 1 hts gL_law_X10_order rfl rfl rfl (by decide +kernel) ⟨Nat.le_of_ble_eq_true rfl, Nat.le_of_ble_eq_true rfl⟩) rfl rfl (by decide) rfl hl.1 rfl (Nat.le_of_ble_eq_true rfl) hf dL_law_684) hw (fun H locs hw => ?_)
  refine lv_icmp_eq (tgt := 1019) hx hb dL_law_687 (by decide) (fun _ => ?_) (fun c2 => absurd rfl c2)
  exact hk σ _ _ _ hI2 hw hl

set_option maxRecDepth 100000 in
set_option maxHeartbeats 4000000 in
theorem lwc_entry {p : Program} {l : Launch} {e : Env} {s : State} {m : MethodId} {below : List Frame} {meth : Method} {c : Code} {b L : Nat} {xs : Nat → Int32} {G : Gp} {Inv : St → Prop} (C0 : lw_At p s m meth c b L xs) (hE : Ev G (aw s) s) (hM : MS_entry Inv) {i : Nat} (hi : i + 7 ≤ L) (hL : L ≤ 3584) {cells slots : Nat} (hf : cells ≤ room_1.cells ∧ slots ≤ room_1.slots) (hk : ∀ (σ : St) (H : Heap) (locs : List Loc) (ls : Array Slot), Inv σ → Ww G (aw s) σ s H locs → lv_has ls 4 [(0, .ref b), (1, .ref (ad G 0)), (2, .ref (ad G 72)), (3, .int (nI i))] → W p l e room_1 s m #[Value.ref b] below meth c H locs cells slots (lw_Z below #[Value.ref b] s) (F0 m 1019 ls [])) {σ : St} {H : Heap} {locs : List Loc} {ls : Array Slot} (hI : Inv σ) (hw : Ww G (aw s) σ s H locs) (hl : lv_has ls 4 [(0, .ref b), (1, .ref (ad G 0)), (2, .ref (ad G 72)), (3, .int (nI i))]) : W p l e room_1 s m #[Value.ref b] below meth c H locs cells slots (lw_Z below #[Value.ref b] s) (F0 m 692 ls []) := by
  obtain ⟨hx, hb, hr, hml, hown, hts0, hX, hbl, hlocks, hgv⟩ := C0
  have hts : ∀ w ∈ wsL_law, w.before #[Value.ref b] s = true := fun w h => hts0 w (wsL_law_in w h)
  have SL : CallFix p m c cL_law 4 s #[Value.ref b] wsL_law RL := ⟨hx, hb, hml, hown, hts⟩
  have hbA : ¬ (aw s) b := Nat.not_le.mpr hbl
  refine lv_aload_n hx hb dL_law_692 rfl (lv_at hl 1 rfl) ?_
  refine lv_aload_n hx hb dL_law_693 rfl (lv_at hl 0 rfl) ?_
  refine lv_iload_n hx hb dL_law_694 rfl (lv_at hl 3 rfl) ?_
  refine lv_iconst (v := 1) hx hb dL_law_695 (by decide) ?_
  refine lv_iadd hx hb dL_law_696 ?_
  refine va_sld hx hb hX hbl hbA hw.2.2.1 (scr_in hi hL (k := 1) (by decide)) dL_law_697 ?_
  refine lv_aload_n hx hb dL_law_698 rfl (lv_at hl 0 rfl) ?_
  refine lv_iload_n hx hb dL_law_699 rfl (lv_at hl 3 rfl) ?_
  refine lv_iconst (v := 2) hx hb dL_law_700 (by decide) ?_
  refine lv_iadd hx hb dL_law_701 ?_
  refine va_sld hx hb hX hbl hbA hw.2.2.1 (scr_in hi hL (k := 2) (by decide)) dL_law_702 ?_
  refine lv_aload_n hx hb dL_law_703 rfl (lv_at hl 0 rfl) ?_
  refine lv_iload_n hx hb dL_law_704 rfl (lv_at hl 3 rfl) ?_
  refine lv_iconst (v := 3) hx hb dL_law_705 (by decide) ?_
  refine lv_iadd hx hb dL_law_706 ?_
  refine va_sld hx hb hX hbl hbA hw.2.2.1 (scr_in hi hL (k := 3) (by decide)) dL_law_707 ?_
  obtain ⟨r, g1, g2, hI2⟩ := hM σ hI (xs (nI i + 1).toNatClampNeg) (xs (nI i + 2).toNatClampNeg) (xs (nI i + 3).toNatClampNeg)
  refine r_ci (r_runV (k := 0) (ci := 9) (As := [.int (xs (nI i + 1).toNatClampNeg), .int (xs (nI i + 2).toNatClampNeg), .int (xs (nI i + 3).toNatClampNeg)]) (rest := []) SL hE hw (c_X9_entry l G (aw s) σ (xs (nI i + 1).toNatClampNeg) (xs (nI i + 2).toNatClampNeg) (xs (nI i + 3).toNatClampNeg) g1) (cwV 3 hts gL_law_X9_entry rfl rfl rfl (by decide +kernel) ⟨Nat.le_of_ble_eq_true rfl, Nat.le_of_ble_eq_true rfl⟩) rfl rfl (by decide) rfl hl.1 rfl (Nat.le_of_ble_eq_true rfl) hf dL_law_708) hw (fun H locs hw => ?_)
  refine lv_aload_n hx hb dL_law_711 rfl (lv_at hl 2 rfl) ?_
  refine lv_aload_n hx hb dL_law_712 rfl (lv_at hl 0 rfl) ?_
  refine lv_iload_n hx hb dL_law_713 rfl (lv_at hl 3 rfl) ?_
  refine lv_iconst (v := 1) hx hb dL_law_714 (by decide) ?_
  refine lv_iadd hx hb dL_law_715 ?_
  refine va_sld hx hb hX hbl hbA hw.2.2.1 (scr_in hi hL (k := 1) (by decide)) dL_law_716 ?_
  refine lv_aload_n hx hb dL_law_717 rfl (lv_at hl 0 rfl) ?_
  refine lv_iload_n hx hb dL_law_718 rfl (lv_at hl 3 rfl) ?_
  refine lv_iconst (v := 2) hx hb dL_law_719 (by decide) ?_
  refine lv_iadd hx hb dL_law_720 ?_
  refine va_sld hx hb hX hbl hbA hw.2.2.1 (scr_in hi hL (k := 2) (by decide)) dL_law_721 ?_
  refine lv_aload_n hx hb dL_law_722 rfl (lv_at hl 0 rfl) ?_
  refine lv_iload_n hx hb dL_law_723 rfl (lv_at hl 3 rfl) ?_
  refine lv_iconst (v := 3) hx hb dL_law_724 (by decide) ?_
  refine lv_iadd hx hb dL_law_725 ?_
  refine va_sld hx hb hX hbl hbA hw.2.2.1 (scr_in hi hL (k := 3) (by decide)) dL_law_726 ?_
  refine r_ci (r_runV (k := 72) (ci := 10) (As := [.int (xs (nI i + 1).toNatClampNeg), .int (xs (nI i + 2).toNatClampNeg), .int (xs (nI i + 3).toNatClampNeg)]) (rest := [.int r]) SL hE hw (c_X10_entry l G (aw s) σ (xs (nI i + 1).toNatClampNeg) (xs (nI i + 2).toNatClampNeg) (xs (nI i + 3).toNatClampNeg) g2) (cwV 3 hts gL_law_X10_entry rfl rfl rfl (by decide +kernel) ⟨Nat.le_of_ble_eq_true rfl, Nat.le_of_ble_eq_true rfl⟩) rfl rfl (by decide) rfl hl.1 rfl (Nat.le_of_ble_eq_true rfl) hf dL_law_727) hw (fun H locs hw => ?_)
  refine lv_icmp_eq (tgt := 1019) hx hb dL_law_730 (by decide) (fun _ => ?_) (fun c2 => absurd rfl c2)
  exact hk σ _ _ _ hI2 hw hl

set_option maxRecDepth 100000 in
set_option maxHeartbeats 4000000 in
theorem lwc_lose {p : Program} {l : Launch} {e : Env} {s : State} {m : MethodId} {below : List Frame} {meth : Method} {c : Code} {b L : Nat} {xs : Nat → Int32} {G : Gp} {Inv : St → Prop} (C0 : lw_At p s m meth c b L xs) (hE : Ev G (aw s) s) (hM : MS_lose Inv) {i : Nat} (hi : i + 7 ≤ L) (hL : L ≤ 3584) {cells slots : Nat} (hf : cells ≤ room_1.cells ∧ slots ≤ room_1.slots) (hk : ∀ (σ : St) (H : Heap) (locs : List Loc) (ls : Array Slot), Inv σ → Ww G (aw s) σ s H locs → lv_has ls 4 [(0, .ref b), (1, .ref (ad G 0)), (2, .ref (ad G 72)), (3, .int (nI i))] → W p l e room_1 s m #[Value.ref b] below meth c H locs cells slots (lw_Z below #[Value.ref b] s) (F0 m 1019 ls [])) {σ : St} {H : Heap} {locs : List Loc} {ls : Array Slot} (hI : Inv σ) (hw : Ww G (aw s) σ s H locs) (hl : lv_has ls 4 [(0, .ref b), (1, .ref (ad G 0)), (2, .ref (ad G 72)), (3, .int (nI i))]) : W p l e room_1 s m #[Value.ref b] below meth c H locs cells slots (lw_Z below #[Value.ref b] s) (F0 m 735 ls []) := by
  obtain ⟨hx, hb, hr, hml, hown, hts0, hX, hbl, hlocks, hgv⟩ := C0
  have hts : ∀ w ∈ wsL_law, w.before #[Value.ref b] s = true := fun w h => hts0 w (wsL_law_in w h)
  have SL : CallFix p m c cL_law 4 s #[Value.ref b] wsL_law RL := ⟨hx, hb, hml, hown, hts⟩
  have hbA : ¬ (aw s) b := Nat.not_le.mpr hbl
  refine lv_aload_n hx hb dL_law_735 rfl (lv_at hl 1 rfl) ?_
  refine lv_aload_n hx hb dL_law_736 rfl (lv_at hl 0 rfl) ?_
  refine lv_iload_n hx hb dL_law_737 rfl (lv_at hl 3 rfl) ?_
  refine lv_iconst (v := 1) hx hb dL_law_738 (by decide) ?_
  refine lv_iadd hx hb dL_law_739 ?_
  refine va_sld hx hb hX hbl hbA hw.2.2.1 (scr_in hi hL (k := 1) (by decide)) dL_law_740 ?_
  refine lv_aload_n hx hb dL_law_741 rfl (lv_at hl 0 rfl) ?_
  refine lv_iload_n hx hb dL_law_742 rfl (lv_at hl 3 rfl) ?_
  refine lv_iconst (v := 2) hx hb dL_law_743 (by decide) ?_
  refine lv_iadd hx hb dL_law_744 ?_
  refine va_sld hx hb hX hbl hbA hw.2.2.1 (scr_in hi hL (k := 2) (by decide)) dL_law_745 ?_
  refine lv_aload_n hx hb dL_law_746 rfl (lv_at hl 0 rfl) ?_
  refine lv_iload_n hx hb dL_law_747 rfl (lv_at hl 3 rfl) ?_
  refine lv_iconst (v := 3) hx hb dL_law_748 (by decide) ?_
  refine lv_iadd hx hb dL_law_749 ?_
  refine va_sld hx hb hX hbl hbA hw.2.2.1 (scr_in hi hL (k := 3) (by decide)) dL_law_750 ?_
  obtain ⟨r, s1, s2, g1, g2, hI2⟩ := hM σ hI (xs (nI i + 1).toNatClampNeg) (xs (nI i + 2).toNatClampNeg) (xs (nI i + 3).toNatClampNeg)
  refine r_ci (r_runV (k := 0) (ci := 9) (As := [.int (xs (nI i + 1).toNatClampNeg), .int (xs (nI i + 2).toNatClampNeg), .int (xs (nI i + 3).toNatClampNeg)]) (rest := []) SL hE hw (c_X9_lose l G (aw s) σ (xs (nI i + 1).toNatClampNeg) (xs (nI i + 2).toNatClampNeg) (xs (nI i + 3).toNatClampNeg) g1) (cwV 3 hts gL_law_X9_lose rfl rfl rfl (by decide +kernel) ⟨Nat.le_of_ble_eq_true rfl, Nat.le_of_ble_eq_true rfl⟩) rfl rfl (by decide) rfl hl.1 rfl (Nat.le_of_ble_eq_true rfl) hf dL_law_751) hw (fun H locs hw => ?_)
  refine lv_aload_n hx hb dL_law_754 rfl (lv_at hl 2 rfl) ?_
  refine lv_aload_n hx hb dL_law_755 rfl (lv_at hl 0 rfl) ?_
  refine lv_iload_n hx hb dL_law_756 rfl (lv_at hl 3 rfl) ?_
  refine lv_iconst (v := 1) hx hb dL_law_757 (by decide) ?_
  refine lv_iadd hx hb dL_law_758 ?_
  refine va_sld hx hb hX hbl hbA hw.2.2.1 (scr_in hi hL (k := 1) (by decide)) dL_law_759 ?_
  refine lv_aload_n hx hb dL_law_760 rfl (lv_at hl 0 rfl) ?_
  refine lv_iload_n hx hb dL_law_761 rfl (lv_at hl 3 rfl) ?_
  refine lv_iconst (v := 2) hx hb dL_law_762 (by decide) ?_
  refine lv_iadd hx hb dL_law_763 ?_
  refine va_sld hx hb hX hbl hbA hw.2.2.1 (scr_in hi hL (k := 2) (by decide)) dL_law_764 ?_
  refine lv_aload_n hx hb dL_law_765 rfl (lv_at hl 0 rfl) ?_
  refine lv_iload_n hx hb dL_law_766 rfl (lv_at hl 3 rfl) ?_
  refine lv_iconst (v := 3) hx hb dL_law_767 (by decide) ?_
  refine lv_iadd hx hb dL_law_768 ?_
  refine va_sld hx hb hX hbl hbA hw.2.2.1 (scr_in hi hL (k := 3) (by decide)) dL_law_769 ?_
  refine r_ci (r_runV (k := 72) (ci := 10) (As := [.int (xs (nI i + 1).toNatClampNeg), .int (xs (nI i + 2).toNatClampNeg), .int (xs (nI i + 3).toNatClampNeg)]) (rest := [.int r]) SL hE hw (c_X10_lose l G (aw s) s1 (xs (nI i + 1).toNatClampNeg) (xs (nI i + 2).toNatClampNeg) (xs (nI i + 3).toNatClampNeg) g2) (cwV 3 hts gL_law_X10_lose rfl rfl rfl (by decide +kernel) ⟨Nat.le_of_ble_eq_true rfl, Nat.le_of_ble_eq_true rfl⟩) rfl rfl (by decide) rfl hl.1 rfl (Nat.le_of_ble_eq_true rfl) hf dL_law_770) hw (fun H locs hw => ?_)
  refine lv_icmp_eq (tgt := 1019) hx hb dL_law_773 (by decide) (fun _ => ?_) (fun c2 => absurd rfl c2)
  exact hk s2 _ _ _ hI2 hw hl

set_option maxRecDepth 100000 in
set_option maxHeartbeats 4000000 in
theorem lwc_judge {p : Program} {l : Launch} {e : Env} {s : State} {m : MethodId} {below : List Frame} {meth : Method} {c : Code} {b L : Nat} {xs : Nat → Int32} {G : Gp} {Inv : St → Prop} (C0 : lw_At p s m meth c b L xs) (hE : Ev G (aw s) s) (hM : MS_judge Inv) {i : Nat} (hi : i + 7 ≤ L) (hL : L ≤ 3584) {cells slots : Nat} (hf : cells ≤ room_1.cells ∧ slots ≤ room_1.slots) (hk : ∀ (σ : St) (H : Heap) (locs : List Loc) (ls : Array Slot), Inv σ → Ww G (aw s) σ s H locs → lv_has ls 4 [(0, .ref b), (1, .ref (ad G 0)), (2, .ref (ad G 72)), (3, .int (nI i))] → W p l e room_1 s m #[Value.ref b] below meth c H locs cells slots (lw_Z below #[Value.ref b] s) (F0 m 1019 ls [])) {σ : St} {H : Heap} {locs : List Loc} {ls : Array Slot} (hI : Inv σ) (hw : Ww G (aw s) σ s H locs) (hl : lv_has ls 4 [(0, .ref b), (1, .ref (ad G 0)), (2, .ref (ad G 72)), (3, .int (nI i))]) : W p l e room_1 s m #[Value.ref b] below meth c H locs cells slots (lw_Z below #[Value.ref b] s) (F0 m 778 ls []) := by
  obtain ⟨hx, hb, hr, hml, hown, hts0, hX, hbl, hlocks, hgv⟩ := C0
  have hts : ∀ w ∈ wsL_law, w.before #[Value.ref b] s = true := fun w h => hts0 w (wsL_law_in w h)
  have SL : CallFix p m c cL_law 4 s #[Value.ref b] wsL_law RL := ⟨hx, hb, hml, hown, hts⟩
  have hbA : ¬ (aw s) b := Nat.not_le.mpr hbl
  refine lv_aload_n hx hb dL_law_778 rfl (lv_at hl 1 rfl) ?_
  refine lv_aload_n hx hb dL_law_779 rfl (lv_at hl 0 rfl) ?_
  refine lv_iload_n hx hb dL_law_780 rfl (lv_at hl 3 rfl) ?_
  refine lv_iconst (v := 1) hx hb dL_law_781 (by decide) ?_
  refine lv_iadd hx hb dL_law_782 ?_
  refine va_sld hx hb hX hbl hbA hw.2.2.1 (scr_in hi hL (k := 1) (by decide)) dL_law_783 ?_
  obtain ⟨r, s1, s2, g1, g2, hI2⟩ := hM σ hI (xs (nI i + 1).toNatClampNeg)
  refine r_ci (r_runV (k := 0) (ci := 9) (As := [.int (xs (nI i + 1).toNatClampNeg)]) (rest := []) SL hE hw (c_X9_judge l G (aw s) σ (xs (nI i + 1).toNatClampNeg) g1) (cwV 1 hts gL_law_X9_judge rfl rfl rfl (by decide +kernel) ⟨Nat.le_of_ble_eq_true rfl, Nat.le_of_ble_eq_true rfl⟩) rfl rfl (by decide) rfl hl.1 rfl (Nat.le_of_ble_eq_true rfl) hf dL_law_784) hw (fun H locs hw => ?_)
  refine lv_aload_n hx hb dL_law_787 rfl (lv_at hl 2 rfl) ?_
  refine lv_aload_n hx hb dL_law_788 rfl (lv_at hl 0 rfl) ?_
  refine lv_iload_n hx hb dL_law_789 rfl (lv_at hl 3 rfl) ?_
  refine lv_iconst (v := 1) hx hb dL_law_790 (by decide) ?_
  refine lv_iadd hx hb dL_law_791 ?_
  refine va_sld hx hb hX hbl hbA hw.2.2.1 (scr_in hi hL (k := 1) (by decide)) dL_law_792 ?_
  refine r_ci (r_runV (k := 72) (ci := 10) (As := [.int (xs (nI i + 1).toNatClampNeg)]) (rest := [.int r]) SL hE hw (c_X10_judge l G (aw s) s1 (xs (nI i + 1).toNatClampNeg) g2) (cwV 1 hts gL_law_X10_judge rfl rfl rfl (by decide +kernel) ⟨Nat.le_of_ble_eq_true rfl, Nat.le_of_ble_eq_true rfl⟩) rfl rfl (by decide) rfl hl.1 rfl (Nat.le_of_ble_eq_true rfl) hf dL_law_793) hw (fun H locs hw => ?_)
  refine lv_icmp_eq (tgt := 1019) hx hb dL_law_796 (by decide) (fun _ => ?_) (fun c2 => absurd rfl c2)
  exact hk s2 _ _ _ hI2 hw hl

set_option maxRecDepth 100000 in
set_option maxHeartbeats 4000000 in
theorem lwc_ways {p : Program} {l : Launch} {e : Env} {s : State} {m : MethodId} {below : List Frame} {meth : Method} {c : Code} {b L : Nat} {xs : Nat → Int32} {G : Gp} {Inv : St → Prop} (C0 : lw_At p s m meth c b L xs) (hE : Ev G (aw s) s) (hM : MS_ways Inv) {i : Nat} (hi : i + 7 ≤ L) (hL : L ≤ 3584) {cells slots : Nat} (hf : cells ≤ room_1.cells ∧ slots ≤ room_1.slots) (hk : ∀ (σ : St) (H : Heap) (locs : List Loc) (ls : Array Slot), Inv σ → Ww G (aw s) σ s H locs → lv_has ls 4 [(0, .ref b), (1, .ref (ad G 0)), (2, .ref (ad G 72)), (3, .int (nI i))] → W p l e room_1 s m #[Value.ref b] below meth c H locs cells slots (lw_Z below #[Value.ref b] s) (F0 m 1019 ls [])) {σ : St} {H : Heap} {locs : List Loc} {ls : Array Slot} (hI : Inv σ) (hw : Ww G (aw s) σ s H locs) (hl : lv_has ls 4 [(0, .ref b), (1, .ref (ad G 0)), (2, .ref (ad G 72)), (3, .int (nI i))]) : W p l e room_1 s m #[Value.ref b] below meth c H locs cells slots (lw_Z below #[Value.ref b] s) (F0 m 801 ls []) := by
  obtain ⟨hx, hb, hr, hml, hown, hts0, hX, hbl, hlocks, hgv⟩ := C0
  have hts : ∀ w ∈ wsL_law, w.before #[Value.ref b] s = true := fun w h => hts0 w (wsL_law_in w h)
  have SL : CallFix p m c cL_law 4 s #[Value.ref b] wsL_law RL := ⟨hx, hb, hml, hown, hts⟩
  have hbA : ¬ (aw s) b := Nat.not_le.mpr hbl
  refine lv_aload_n hx hb dL_law_801 rfl (lv_at hl 1 rfl) ?_
  refine lv_aload_n hx hb dL_law_802 rfl (lv_at hl 0 rfl) ?_
  refine lv_iload_n hx hb dL_law_803 rfl (lv_at hl 3 rfl) ?_
  refine lv_iconst (v := 1) hx hb dL_law_804 (by decide) ?_
  refine lv_iadd hx hb dL_law_805 ?_
  refine va_sld hx hb hX hbl hbA hw.2.2.1 (scr_in hi hL (k := 1) (by decide)) dL_law_806 ?_
  refine lv_aload_n hx hb dL_law_807 rfl (lv_at hl 0 rfl) ?_
  refine lv_iload_n hx hb dL_law_808 rfl (lv_at hl 3 rfl) ?_
  refine lv_iconst (v := 2) hx hb dL_law_809 (by decide) ?_
  refine lv_iadd hx hb dL_law_810 ?_
  refine va_sld hx hb hX hbl hbA hw.2.2.1 (scr_in hi hL (k := 2) (by decide)) dL_law_811 ?_
  refine lv_if_eq (tgt := 819) hx hb dL_law_812 (by decide) (fun c1 => ?_) (fun c1 => ?_)
  · skip
    refine lv_iconst (v := 0) hx hb dL_law_819 (by decide) ?_
    obtain ⟨r, s1, s2, g1, g2, hI2⟩ := hM σ hI (xs (nI i + 1).toNatClampNeg) 0
    refine r_ci (r_runV (k := 0) (ci := 9) (As := [.int (xs (nI i + 1).toNatClampNeg), .int 0]) (rest := []) SL hE hw (c_X9_ways l G (aw s) σ (xs (nI i + 1).toNatClampNeg) 0 g1) (cwV 2 hts gL_law_X9_ways rfl rfl rfl (by decide +kernel) ⟨Nat.le_of_ble_eq_true rfl, Nat.le_of_ble_eq_true rfl⟩) rfl rfl (by decide) rfl hl.1 rfl (Nat.le_of_ble_eq_true rfl) hf dL_law_820) hw (fun H locs hw => ?_)
    refine lv_aload_n hx hb dL_law_823 rfl (lv_at hl 2 rfl) ?_
    refine lv_aload_n hx hb dL_law_824 rfl (lv_at hl 0 rfl) ?_
    refine lv_iload_n hx hb dL_law_825 rfl (lv_at hl 3 rfl) ?_
    refine lv_iconst (v := 1) hx hb dL_law_826 (by decide) ?_
    refine lv_iadd hx hb dL_law_827 ?_
    refine va_sld hx hb hX hbl hbA hw.2.2.1 (scr_in hi hL (k := 1) (by decide)) dL_law_828 ?_
    refine lv_aload_n hx hb dL_law_829 rfl (lv_at hl 0 rfl) ?_
    refine lv_iload_n hx hb dL_law_830 rfl (lv_at hl 3 rfl) ?_
    refine lv_iconst (v := 2) hx hb dL_law_831 (by decide) ?_
    refine lv_iadd hx hb dL_law_832 ?_
    refine va_sld hx hb hX hbl hbA hw.2.2.1 (scr_in hi hL (k := 2) (by decide)) dL_law_833 ?_
    refine lv_if_eq (tgt := 841) hx hb dL_law_834 (by decide) (fun _ => ?_) (fun c2 => absurd c1 c2)
    refine lv_iconst (v := 0) hx hb dL_law_841 (by decide) ?_
    refine r_ci (r_runV (k := 72) (ci := 10) (As := [.int (xs (nI i + 1).toNatClampNeg), .int 0]) (rest := [.int r]) SL hE hw (c_X10_ways l G (aw s) s1 (xs (nI i + 1).toNatClampNeg) 0 g2) (cwV 2 hts gL_law_X10_ways rfl rfl rfl (by decide +kernel) ⟨Nat.le_of_ble_eq_true rfl, Nat.le_of_ble_eq_true rfl⟩) rfl rfl (by decide) rfl hl.1 rfl (Nat.le_of_ble_eq_true rfl) hf dL_law_842) hw (fun H locs hw => ?_)
    refine lv_icmp_eq (tgt := 1019) hx hb dL_law_845 (by decide) (fun _ => ?_) (fun c2 => absurd rfl c2)
    exact hk s2 _ _ _ hI2 hw hl
  · skip
    refine lv_iconst (v := 1) hx hb dL_law_815 (by decide) ?_
    refine lv_goto (tgt := 820) hx hb dL_law_816 (by decide) ?_
    obtain ⟨r, s1, s2, g1, g2, hI2⟩ := hM σ hI (xs (nI i + 1).toNatClampNeg) 1
    refine r_ci (r_runV (k := 0) (ci := 9) (As := [.int (xs (nI i + 1).toNatClampNeg), .int 1]) (rest := []) SL hE hw (c_X9_ways l G (aw s) σ (xs (nI i + 1).toNatClampNeg) 1 g1) (cwV 2 hts gL_law_X9_ways rfl rfl rfl (by decide +kernel) ⟨Nat.le_of_ble_eq_true rfl, Nat.le_of_ble_eq_true rfl⟩) rfl rfl (by decide) rfl hl.1 rfl (Nat.le_of_ble_eq_true rfl) hf dL_law_820) hw (fun H locs hw => ?_)
    refine lv_aload_n hx hb dL_law_823 rfl (lv_at hl 2 rfl) ?_
    refine lv_aload_n hx hb dL_law_824 rfl (lv_at hl 0 rfl) ?_
    refine lv_iload_n hx hb dL_law_825 rfl (lv_at hl 3 rfl) ?_
    refine lv_iconst (v := 1) hx hb dL_law_826 (by decide) ?_
    refine lv_iadd hx hb dL_law_827 ?_
    refine va_sld hx hb hX hbl hbA hw.2.2.1 (scr_in hi hL (k := 1) (by decide)) dL_law_828 ?_
    refine lv_aload_n hx hb dL_law_829 rfl (lv_at hl 0 rfl) ?_
    refine lv_iload_n hx hb dL_law_830 rfl (lv_at hl 3 rfl) ?_
    refine lv_iconst (v := 2) hx hb dL_law_831 (by decide) ?_
    refine lv_iadd hx hb dL_law_832 ?_
    refine va_sld hx hb hX hbl hbA hw.2.2.1 (scr_in hi hL (k := 2) (by decide)) dL_law_833 ?_
    refine lv_if_eq (tgt := 841) hx hb dL_law_834 (by decide) (fun c2 => absurd c2 c1) (fun _ => ?_)
    refine lv_iconst (v := 1) hx hb dL_law_837 (by decide) ?_
    refine lv_goto (tgt := 842) hx hb dL_law_838 (by decide) ?_
    refine r_ci (r_runV (k := 72) (ci := 10) (As := [.int (xs (nI i + 1).toNatClampNeg), .int 1]) (rest := [.int r]) SL hE hw (c_X10_ways l G (aw s) s1 (xs (nI i + 1).toNatClampNeg) 1 g2) (cwV 2 hts gL_law_X10_ways rfl rfl rfl (by decide +kernel) ⟨Nat.le_of_ble_eq_true rfl, Nat.le_of_ble_eq_true rfl⟩) rfl rfl (by decide) rfl hl.1 rfl (Nat.le_of_ble_eq_true rfl) hf dL_law_842) hw (fun H locs hw => ?_)
    refine lv_icmp_eq (tgt := 1019) hx hb dL_law_845 (by decide) (fun _ => ?_) (fun c2 => absurd rfl c2)
    exact hk s2 _ _ _ hI2 hw hl

set_option maxRecDepth 100000 in
set_option maxHeartbeats 4000000 in
theorem lwc_chaser {p : Program} {l : Launch} {e : Env} {s : State} {m : MethodId} {below : List Frame} {meth : Method} {c : Code} {b L : Nat} {xs : Nat → Int32} {G : Gp} {Inv : St → Prop} (C0 : lw_At p s m meth c b L xs) (hE : Ev G (aw s) s) (hM : MS_chaser Inv) {i : Nat} (hi : i + 7 ≤ L) (hL : L ≤ 3584) {cells slots : Nat} (hf : cells ≤ room_1.cells ∧ slots ≤ room_1.slots) (hk : ∀ (σ : St) (H : Heap) (locs : List Loc) (ls : Array Slot), Inv σ → Ww G (aw s) σ s H locs → lv_has ls 4 [(0, .ref b), (1, .ref (ad G 0)), (2, .ref (ad G 72)), (3, .int (nI i))] → W p l e room_1 s m #[Value.ref b] below meth c H locs cells slots (lw_Z below #[Value.ref b] s) (F0 m 1019 ls [])) {σ : St} {H : Heap} {locs : List Loc} {ls : Array Slot} (hI : Inv σ) (hw : Ww G (aw s) σ s H locs) (hl : lv_has ls 4 [(0, .ref b), (1, .ref (ad G 0)), (2, .ref (ad G 72)), (3, .int (nI i))]) : W p l e room_1 s m #[Value.ref b] below meth c H locs cells slots (lw_Z below #[Value.ref b] s) (F0 m 850 ls []) := by
  obtain ⟨hx, hb, hr, hml, hown, hts0, hX, hbl, hlocks, hgv⟩ := C0
  have hts : ∀ w ∈ wsL_law, w.before #[Value.ref b] s = true := fun w h => hts0 w (wsL_law_in w h)
  have SL : CallFix p m c cL_law 4 s #[Value.ref b] wsL_law RL := ⟨hx, hb, hml, hown, hts⟩
  have hbA : ¬ (aw s) b := Nat.not_le.mpr hbl
  refine lv_aload_n hx hb dL_law_850 rfl (lv_at hl 1 rfl) ?_
  refine lv_aload_n hx hb dL_law_851 rfl (lv_at hl 0 rfl) ?_
  refine lv_iload_n hx hb dL_law_852 rfl (lv_at hl 3 rfl) ?_
  refine lv_iconst (v := 1) hx hb dL_law_853 (by decide) ?_
  refine lv_iadd hx hb dL_law_854 ?_
  refine va_sld hx hb hX hbl hbA hw.2.2.1 (scr_in hi hL (k := 1) (by decide)) dL_law_855 ?_
  refine lv_aload_n hx hb dL_law_856 rfl (lv_at hl 0 rfl) ?_
  refine lv_iload_n hx hb dL_law_857 rfl (lv_at hl 3 rfl) ?_
  refine lv_iconst (v := 2) hx hb dL_law_858 (by decide) ?_
  refine lv_iadd hx hb dL_law_859 ?_
  refine va_sld hx hb hX hbl hbA hw.2.2.1 (scr_in hi hL (k := 2) (by decide)) dL_law_860 ?_
  refine lv_aload_n hx hb dL_law_861 rfl (lv_at hl 0 rfl) ?_
  refine lv_iload_n hx hb dL_law_862 rfl (lv_at hl 3 rfl) ?_
  refine lv_iconst (v := 3) hx hb dL_law_863 (by decide) ?_
  refine lv_iadd hx hb dL_law_864 ?_
  refine va_sld hx hb hX hbl hbA hw.2.2.1 (scr_in hi hL (k := 3) (by decide)) dL_law_865 ?_
  obtain ⟨r, s1, s2, g1, g2, hI2⟩ := hM σ hI (xs (nI i + 1).toNatClampNeg) (xs (nI i + 2).toNatClampNeg) (xs (nI i + 3).toNatClampNeg)
  refine r_ci (r_runV (k := 0) (ci := 9) (As := [.int (xs (nI i + 1).toNatClampNeg), .int (xs (nI i + 2).toNatClampNeg), .int (xs (nI i + 3).toNatClampNeg)]) (rest := []) SL hE hw (c_X9_chaser l G (aw s) σ (xs (nI i + 1).toNatClampNeg) (xs (nI i + 2).toNatClampNeg) (xs (nI i + 3).toNatClampNeg) g1) (cwV 3 hts gL_law_X9_chaser rfl rfl rfl (by decide +kernel) ⟨Nat.le_of_ble_eq_true rfl, Nat.le_of_ble_eq_true rfl⟩) rfl rfl (by decide) rfl hl.1 rfl (Nat.le_of_ble_eq_true rfl) hf dL_law_866) hw (fun H locs hw => ?_)
  refine lv_aload_n hx hb dL_law_869 rfl (lv_at hl 2 rfl) ?_
  refine lv_aload_n hx hb dL_law_870 rfl (lv_at hl 0 rfl) ?_
  refine lv_iload_n hx hb dL_law_871 rfl (lv_at hl 3 rfl) ?_
  refine lv_iconst (v := 1) hx hb dL_law_872 (by decide) ?_
  refine lv_iadd hx hb dL_law_873 ?_
  refine va_sld hx hb hX hbl hbA hw.2.2.1 (scr_in hi hL (k := 1) (by decide)) dL_law_874 ?_
  refine lv_aload_n hx hb dL_law_875 rfl (lv_at hl 0 rfl) ?_
  refine lv_iload_n hx hb dL_law_876 rfl (lv_at hl 3 rfl) ?_
  refine lv_iconst (v := 2) hx hb dL_law_877 (by decide) ?_
  refine lv_iadd hx hb dL_law_878 ?_
  refine va_sld hx hb hX hbl hbA hw.2.2.1 (scr_in hi hL (k := 2) (by decide)) dL_law_879 ?_
  refine lv_aload_n hx hb dL_law_880 rfl (lv_at hl 0 rfl) ?_
  refine lv_iload_n hx hb dL_law_881 rfl (lv_at hl 3 rfl) ?_
  refine lv_iconst (v := 3) hx hb dL_law_882 (by decide) ?_
  refine lv_iadd hx hb dL_law_883 ?_
  refine va_sld hx hb hX hbl hbA hw.2.2.1 (scr_in hi hL (k := 3) (by decide)) dL_law_884 ?_
  refine r_ci (r_runV (k := 72) (ci := 10) (As := [.int (xs (nI i + 1).toNatClampNeg), .int (xs (nI i + 2).toNatClampNeg), .int (xs (nI i + 3).toNatClampNeg)]) (rest := [.int r]) SL hE hw (c_X10_chaser l G (aw s) s1 (xs (nI i + 1).toNatClampNeg) (xs (nI i + 2).toNatClampNeg) (xs (nI i + 3).toNatClampNeg) g2) (cwV 3 hts gL_law_X10_chaser rfl rfl rfl (by decide +kernel) ⟨Nat.le_of_ble_eq_true rfl, Nat.le_of_ble_eq_true rfl⟩) rfl rfl (by decide) rfl hl.1 rfl (Nat.le_of_ble_eq_true rfl) hf dL_law_885) hw (fun H locs hw => ?_)
  refine lv_icmp_eq (tgt := 1019) hx hb dL_law_888 (by decide) (fun _ => ?_) (fun c2 => absurd rfl c2)
  exact hk s2 _ _ _ hI2 hw hl

set_option maxRecDepth 100000 in
set_option maxHeartbeats 4000000 in
theorem lwc_chase {p : Program} {l : Launch} {e : Env} {s : State} {m : MethodId} {below : List Frame} {meth : Method} {c : Code} {b L : Nat} {xs : Nat → Int32} {G : Gp} {Inv : St → Prop} (C0 : lw_At p s m meth c b L xs) (hE : Ev G (aw s) s) (hM : MS_chase Inv) {i : Nat} (hi : i + 7 ≤ L) (hL : L ≤ 3584) {cells slots : Nat} (hf : cells ≤ room_1.cells ∧ slots ≤ room_1.slots) (hk : ∀ (σ : St) (H : Heap) (locs : List Loc) (ls : Array Slot), Inv σ → Ww G (aw s) σ s H locs → lv_has ls 4 [(0, .ref b), (1, .ref (ad G 0)), (2, .ref (ad G 72)), (3, .int (nI i))] → W p l e room_1 s m #[Value.ref b] below meth c H locs cells slots (lw_Z below #[Value.ref b] s) (F0 m 1019 ls [])) {σ : St} {H : Heap} {locs : List Loc} {ls : Array Slot} (hI : Inv σ) (hw : Ww G (aw s) σ s H locs) (hl : lv_has ls 4 [(0, .ref b), (1, .ref (ad G 0)), (2, .ref (ad G 72)), (3, .int (nI i))]) : W p l e room_1 s m #[Value.ref b] below meth c H locs cells slots (lw_Z below #[Value.ref b] s) (F0 m 893 ls []) := by
  obtain ⟨hx, hb, hr, hml, hown, hts0, hX, hbl, hlocks, hgv⟩ := C0
  have hts : ∀ w ∈ wsL_law, w.before #[Value.ref b] s = true := fun w h => hts0 w (wsL_law_in w h)
  have SL : CallFix p m c cL_law 4 s #[Value.ref b] wsL_law RL := ⟨hx, hb, hml, hown, hts⟩
  have hbA : ¬ (aw s) b := Nat.not_le.mpr hbl
  refine lv_aload_n hx hb dL_law_893 rfl (lv_at hl 1 rfl) ?_
  refine lv_aload_n hx hb dL_law_894 rfl (lv_at hl 0 rfl) ?_
  refine lv_iload_n hx hb dL_law_895 rfl (lv_at hl 3 rfl) ?_
  refine lv_iconst (v := 1) hx hb dL_law_896 (by decide) ?_
  refine lv_iadd hx hb dL_law_897 ?_
  refine va_sld hx hb hX hbl hbA hw.2.2.1 (scr_in hi hL (k := 1) (by decide)) dL_law_898 ?_
  refine lv_aload_n hx hb dL_law_899 rfl (lv_at hl 0 rfl) ?_
  refine lv_iload_n hx hb dL_law_900 rfl (lv_at hl 3 rfl) ?_
  refine lv_iconst (v := 2) hx hb dL_law_901 (by decide) ?_
  refine lv_iadd hx hb dL_law_902 ?_
  refine va_sld hx hb hX hbl hbA hw.2.2.1 (scr_in hi hL (k := 2) (by decide)) dL_law_903 ?_
  refine lv_aload_n hx hb dL_law_904 rfl (lv_at hl 0 rfl) ?_
  refine lv_iload_n hx hb dL_law_905 rfl (lv_at hl 3 rfl) ?_
  refine lv_iconst (v := 3) hx hb dL_law_906 (by decide) ?_
  refine lv_iadd hx hb dL_law_907 ?_
  refine va_sld hx hb hX hbl hbA hw.2.2.1 (scr_in hi hL (k := 3) (by decide)) dL_law_908 ?_
  obtain ⟨r, s1, s2, g1, g2, hI2⟩ := hM σ hI (xs (nI i + 1).toNatClampNeg) (xs (nI i + 2).toNatClampNeg) (xs (nI i + 3).toNatClampNeg)
  refine r_ci (r_runV (k := 0) (ci := 9) (As := [.int (xs (nI i + 1).toNatClampNeg), .int (xs (nI i + 2).toNatClampNeg), .int (xs (nI i + 3).toNatClampNeg)]) (rest := []) SL hE hw (c_X9_chase l G (aw s) σ (xs (nI i + 1).toNatClampNeg) (xs (nI i + 2).toNatClampNeg) (xs (nI i + 3).toNatClampNeg) g1) (cwV 3 hts gL_law_X9_chase rfl rfl rfl (by decide +kernel) ⟨Nat.le_of_ble_eq_true rfl, Nat.le_of_ble_eq_true rfl⟩) rfl rfl (by decide) rfl hl.1 rfl (Nat.le_of_ble_eq_true rfl) hf dL_law_909) hw (fun H locs hw => ?_)
  refine lv_aload_n hx hb dL_law_912 rfl (lv_at hl 2 rfl) ?_
  refine lv_aload_n hx hb dL_law_913 rfl (lv_at hl 0 rfl) ?_
  refine lv_iload_n hx hb dL_law_914 rfl (lv_at hl 3 rfl) ?_
  refine lv_iconst (v := 1) hx hb dL_law_915 (by decide) ?_
  refine lv_iadd hx hb dL_law_916 ?_
  refine va_sld hx hb hX hbl hbA hw.2.2.1 (scr_in hi hL (k := 1) (by decide)) dL_law_917 ?_
  refine lv_aload_n hx hb dL_law_918 rfl (lv_at hl 0 rfl) ?_
  refine lv_iload_n hx hb dL_law_919 rfl (lv_at hl 3 rfl) ?_
  refine lv_iconst (v := 2) hx hb dL_law_920 (by decide) ?_
  refine lv_iadd hx hb dL_law_921 ?_
  refine va_sld hx hb hX hbl hbA hw.2.2.1 (scr_in hi hL (k := 2) (by decide)) dL_law_922 ?_
  refine lv_aload_n hx hb dL_law_923 rfl (lv_at hl 0 rfl) ?_
  refine lv_iload_n hx hb dL_law_924 rfl (lv_at hl 3 rfl) ?_
  refine lv_iconst (v := 3) hx hb dL_law_925 (by decide) ?_
  refine lv_iadd hx hb dL_law_926 ?_
  refine va_sld hx hb hX hbl hbA hw.2.2.1 (scr_in hi hL (k := 3) (by decide)) dL_law_927 ?_
  refine r_ci (r_runV (k := 72) (ci := 10) (As := [.int (xs (nI i + 1).toNatClampNeg), .int (xs (nI i + 2).toNatClampNeg), .int (xs (nI i + 3).toNatClampNeg)]) (rest := [.int r]) SL hE hw (c_X10_chase l G (aw s) s1 (xs (nI i + 1).toNatClampNeg) (xs (nI i + 2).toNatClampNeg) (xs (nI i + 3).toNatClampNeg) g2) (cwV 3 hts gL_law_X10_chase rfl rfl rfl (by decide +kernel) ⟨Nat.le_of_ble_eq_true rfl, Nat.le_of_ble_eq_true rfl⟩) rfl rfl (by decide) rfl hl.1 rfl (Nat.le_of_ble_eq_true rfl) hf dL_law_928) hw (fun H locs hw => ?_)
  refine lv_icmp_eq (tgt := 1019) hx hb dL_law_931 (by decide) (fun _ => ?_) (fun c2 => absurd rfl c2)
  exact hk s2 _ _ _ hI2 hw hl

set_option maxRecDepth 100000 in
set_option maxHeartbeats 4000000 in
theorem lwc_first {p : Program} {l : Launch} {e : Env} {s : State} {m : MethodId} {below : List Frame} {meth : Method} {c : Code} {b L : Nat} {xs : Nat → Int32} {G : Gp} {Inv : St → Prop} (C0 : lw_At p s m meth c b L xs) (hE : Ev G (aw s) s) (hM : MS_first Inv) {i : Nat} (hi : i + 7 ≤ L) (hL : L ≤ 3584) {cells slots : Nat} (hf : cells ≤ room_1.cells ∧ slots ≤ room_1.slots) (hk : ∀ (σ : St) (H : Heap) (locs : List Loc) (ls : Array Slot), Inv σ → Ww G (aw s) σ s H locs → lv_has ls 4 [(0, .ref b), (1, .ref (ad G 0)), (2, .ref (ad G 72)), (3, .int (nI i))] → W p l e room_1 s m #[Value.ref b] below meth c H locs cells slots (lw_Z below #[Value.ref b] s) (F0 m 1019 ls [])) {σ : St} {H : Heap} {locs : List Loc} {ls : Array Slot} (hI : Inv σ) (hw : Ww G (aw s) σ s H locs) (hl : lv_has ls 4 [(0, .ref b), (1, .ref (ad G 0)), (2, .ref (ad G 72)), (3, .int (nI i))]) : W p l e room_1 s m #[Value.ref b] below meth c H locs cells slots (lw_Z below #[Value.ref b] s) (F0 m 936 ls []) := by
  obtain ⟨hx, hb, hr, hml, hown, hts0, hX, hbl, hlocks, hgv⟩ := C0
  have hts : ∀ w ∈ wsL_law, w.before #[Value.ref b] s = true := fun w h => hts0 w (wsL_law_in w h)
  have SL : CallFix p m c cL_law 4 s #[Value.ref b] wsL_law RL := ⟨hx, hb, hml, hown, hts⟩
  have hbA : ¬ (aw s) b := Nat.not_le.mpr hbl
  refine lv_aload_n hx hb dL_law_936 rfl (lv_at hl 1 rfl) ?_
  refine lv_aload_n hx hb dL_law_937 rfl (lv_at hl 0 rfl) ?_
  refine lv_iload_n hx hb dL_law_938 rfl (lv_at hl 3 rfl) ?_
  refine lv_iconst (v := 1) hx hb dL_law_939 (by decide) ?_
  refine lv_iadd hx hb dL_law_940 ?_
  refine va_sld hx hb hX hbl hbA hw.2.2.1 (scr_in hi hL (k := 1) (by decide)) dL_law_941 ?_
  obtain ⟨r, s1, s2, g1, g2, hI2⟩ := hM σ hI (xs (nI i + 1).toNatClampNeg)
  refine r_ci (r_runV (k := 0) (ci := 9) (As := [.int (xs (nI i + 1).toNatClampNeg)]) (rest := []) SL hE hw (c_X9_first l G (aw s) σ (xs (nI i + 1).toNatClampNeg) g1) (cwV 1 hts gL_law_X9_first rfl rfl rfl (by decide +kernel) ⟨Nat.le_of_ble_eq_true rfl, Nat.le_of_ble_eq_true rfl⟩) rfl rfl (by decide) rfl hl.1 rfl (Nat.le_of_ble_eq_true rfl) hf dL_law_942) hw (fun H locs hw => ?_)
  refine lv_aload_n hx hb dL_law_945 rfl (lv_at hl 2 rfl) ?_
  refine lv_aload_n hx hb dL_law_946 rfl (lv_at hl 0 rfl) ?_
  refine lv_iload_n hx hb dL_law_947 rfl (lv_at hl 3 rfl) ?_
  refine lv_iconst (v := 1) hx hb dL_law_948 (by decide) ?_
  refine lv_iadd hx hb dL_law_949 ?_
  refine va_sld hx hb hX hbl hbA hw.2.2.1 (scr_in hi hL (k := 1) (by decide)) dL_law_950 ?_
  refine r_ci (r_runV (k := 72) (ci := 10) (As := [.int (xs (nI i + 1).toNatClampNeg)]) (rest := [.int r]) SL hE hw (c_X10_first l G (aw s) s1 (xs (nI i + 1).toNatClampNeg) g2) (cwV 1 hts gL_law_X10_first rfl rfl rfl (by decide +kernel) ⟨Nat.le_of_ble_eq_true rfl, Nat.le_of_ble_eq_true rfl⟩) rfl rfl (by decide) rfl hl.1 rfl (Nat.le_of_ble_eq_true rfl) hf dL_law_951) hw (fun H locs hw => ?_)
  refine lv_icmp_eq (tgt := 1019) hx hb dL_law_954 (by decide) (fun _ => ?_) (fun c2 => absurd rfl c2)
  exact hk s2 _ _ _ hI2 hw hl

set_option maxRecDepth 100000 in
set_option maxHeartbeats 4000000 in
theorem lwc_record {p : Program} {l : Launch} {e : Env} {s : State} {m : MethodId} {below : List Frame} {meth : Method} {c : Code} {b L : Nat} {xs : Nat → Int32} {G : Gp} {Inv : St → Prop} (C0 : lw_At p s m meth c b L xs) (hE : Ev G (aw s) s) (hM : MS_record Inv) {i : Nat} (hi : i + 7 ≤ L) (hL : L ≤ 3584) {cells slots : Nat} (hf : cells ≤ room_1.cells ∧ slots ≤ room_1.slots) (hk : ∀ (σ : St) (H : Heap) (locs : List Loc) (ls : Array Slot), Inv σ → Ww G (aw s) σ s H locs → lv_has ls 4 [(0, .ref b), (1, .ref (ad G 0)), (2, .ref (ad G 72)), (3, .int (nI i))] → W p l e room_1 s m #[Value.ref b] below meth c H locs cells slots (lw_Z below #[Value.ref b] s) (F0 m 1019 ls [])) {σ : St} {H : Heap} {locs : List Loc} {ls : Array Slot} (hI : Inv σ) (hw : Ww G (aw s) σ s H locs) (hl : lv_has ls 4 [(0, .ref b), (1, .ref (ad G 0)), (2, .ref (ad G 72)), (3, .int (nI i))]) : W p l e room_1 s m #[Value.ref b] below meth c H locs cells slots (lw_Z below #[Value.ref b] s) (F0 m 959 ls []) := by
  obtain ⟨hx, hb, hr, hml, hown, hts0, hX, hbl, hlocks, hgv⟩ := C0
  have hts : ∀ w ∈ wsL_law, w.before #[Value.ref b] s = true := fun w h => hts0 w (wsL_law_in w h)
  have SL : CallFix p m c cL_law 4 s #[Value.ref b] wsL_law RL := ⟨hx, hb, hml, hown, hts⟩
  have hbA : ¬ (aw s) b := Nat.not_le.mpr hbl
  refine lv_aload_n hx hb dL_law_959 rfl (lv_at hl 1 rfl) ?_
  refine lv_aload_n hx hb dL_law_960 rfl (lv_at hl 0 rfl) ?_
  refine lv_iload_n hx hb dL_law_961 rfl (lv_at hl 3 rfl) ?_
  refine lv_iconst (v := 1) hx hb dL_law_962 (by decide) ?_
  refine lv_iadd hx hb dL_law_963 ?_
  refine va_sld hx hb hX hbl hbA hw.2.2.1 (scr_in hi hL (k := 1) (by decide)) dL_law_964 ?_
  obtain ⟨r, s1, s2, g1, g2, hI2⟩ := hM σ hI (xs (nI i + 1).toNatClampNeg)
  refine r_ci (r_runV (k := 0) (ci := 9) (As := [.int (xs (nI i + 1).toNatClampNeg)]) (rest := []) SL hE hw (c_X9_record l G (aw s) σ (xs (nI i + 1).toNatClampNeg) g1) (cwV 1 hts gL_law_X9_record rfl rfl rfl (by decide +kernel) ⟨Nat.le_of_ble_eq_true rfl, Nat.le_of_ble_eq_true rfl⟩) rfl rfl (by decide) rfl hl.1 rfl (Nat.le_of_ble_eq_true rfl) hf dL_law_965) hw (fun H locs hw => ?_)
  refine lv_aload_n hx hb dL_law_968 rfl (lv_at hl 2 rfl) ?_
  refine lv_aload_n hx hb dL_law_969 rfl (lv_at hl 0 rfl) ?_
  refine lv_iload_n hx hb dL_law_970 rfl (lv_at hl 3 rfl) ?_
  refine lv_iconst (v := 1) hx hb dL_law_971 (by decide) ?_
  refine lv_iadd hx hb dL_law_972 ?_
  refine va_sld hx hb hX hbl hbA hw.2.2.1 (scr_in hi hL (k := 1) (by decide)) dL_law_973 ?_
  refine r_ci (r_runV (k := 72) (ci := 10) (As := [.int (xs (nI i + 1).toNatClampNeg)]) (rest := [.int r]) SL hE hw (c_X10_record l G (aw s) s1 (xs (nI i + 1).toNatClampNeg) g2) (cwV 1 hts gL_law_X10_record rfl rfl rfl (by decide +kernel) ⟨Nat.le_of_ble_eq_true rfl, Nat.le_of_ble_eq_true rfl⟩) rfl rfl (by decide) rfl hl.1 rfl (Nat.le_of_ble_eq_true rfl) hf dL_law_974) hw (fun H locs hw => ?_)
  refine lv_icmp_eq (tgt := 1019) hx hb dL_law_977 (by decide) (fun _ => ?_) (fun c2 => absurd rfl c2)
  exact hk s2 _ _ _ hI2 hw hl

set_option maxRecDepth 100000 in
set_option maxHeartbeats 4000000 in
theorem lwc_count {p : Program} {l : Launch} {e : Env} {s : State} {m : MethodId} {below : List Frame} {meth : Method} {c : Code} {b L : Nat} {xs : Nat → Int32} {G : Gp} {Inv : St → Prop} (C0 : lw_At p s m meth c b L xs) (hE : Ev G (aw s) s) (hM : MS_count Inv) {i : Nat} (hi : i + 7 ≤ L) (hL : L ≤ 3584) {cells slots : Nat} (hf : cells ≤ room_1.cells ∧ slots ≤ room_1.slots) (hk : ∀ (σ : St) (H : Heap) (locs : List Loc) (ls : Array Slot), Inv σ → Ww G (aw s) σ s H locs → lv_has ls 4 [(0, .ref b), (1, .ref (ad G 0)), (2, .ref (ad G 72)), (3, .int (nI i))] → W p l e room_1 s m #[Value.ref b] below meth c H locs cells slots (lw_Z below #[Value.ref b] s) (F0 m 1019 ls [])) {σ : St} {H : Heap} {locs : List Loc} {ls : Array Slot} (hI : Inv σ) (hw : Ww G (aw s) σ s H locs) (hl : lv_has ls 4 [(0, .ref b), (1, .ref (ad G 0)), (2, .ref (ad G 72)), (3, .int (nI i))]) : W p l e room_1 s m #[Value.ref b] below meth c H locs cells slots (lw_Z below #[Value.ref b] s) (F0 m 982 ls []) := by
  obtain ⟨hx, hb, hr, hml, hown, hts0, hX, hbl, hlocks, hgv⟩ := C0
  have hts : ∀ w ∈ wsL_law, w.before #[Value.ref b] s = true := fun w h => hts0 w (wsL_law_in w h)
  have SL : CallFix p m c cL_law 4 s #[Value.ref b] wsL_law RL := ⟨hx, hb, hml, hown, hts⟩
  have hbA : ¬ (aw s) b := Nat.not_le.mpr hbl
  refine lv_aload_n hx hb dL_law_982 rfl (lv_at hl 1 rfl) ?_
  refine lv_aload_n hx hb dL_law_983 rfl (lv_at hl 0 rfl) ?_
  refine lv_iload_n hx hb dL_law_984 rfl (lv_at hl 3 rfl) ?_
  refine lv_iconst (v := 1) hx hb dL_law_985 (by decide) ?_
  refine lv_iadd hx hb dL_law_986 ?_
  refine va_sld hx hb hX hbl hbA hw.2.2.1 (scr_in hi hL (k := 1) (by decide)) dL_law_987 ?_
  obtain ⟨r, g1, g2, hI2⟩ := hM σ hI (xs (nI i + 1).toNatClampNeg)
  refine r_ci (r_runV (k := 0) (ci := 9) (As := [.int (xs (nI i + 1).toNatClampNeg)]) (rest := []) SL hE hw (c_X9_count l G (aw s) σ (xs (nI i + 1).toNatClampNeg) g1) (cwV 1 hts gL_law_X9_count rfl rfl rfl (by decide +kernel) ⟨Nat.le_of_ble_eq_true rfl, Nat.le_of_ble_eq_true rfl⟩) rfl rfl (by decide) rfl hl.1 rfl (Nat.le_of_ble_eq_true rfl) hf dL_law_988) hw (fun H locs hw => ?_)
  refine lv_aload_n hx hb dL_law_991 rfl (lv_at hl 2 rfl) ?_
  refine lv_aload_n hx hb dL_law_992 rfl (lv_at hl 0 rfl) ?_
  refine lv_iload_n hx hb dL_law_993 rfl (lv_at hl 3 rfl) ?_
  refine lv_iconst (v := 1) hx hb dL_law_994 (by decide) ?_
  refine lv_iadd hx hb dL_law_995 ?_
  refine va_sld hx hb hX hbl hbA hw.2.2.1 (scr_in hi hL (k := 1) (by decide)) dL_law_996 ?_
  refine r_ci (r_runV (k := 72) (ci := 10) (As := [.int (xs (nI i + 1).toNatClampNeg)]) (rest := [.int r]) SL hE hw (c_X10_count l G (aw s) σ (xs (nI i + 1).toNatClampNeg) g2) (cwV 1 hts gL_law_X10_count rfl rfl rfl (by decide +kernel) ⟨Nat.le_of_ble_eq_true rfl, Nat.le_of_ble_eq_true rfl⟩) rfl rfl (by decide) rfl hl.1 rfl (Nat.le_of_ble_eq_true rfl) hf dL_law_997) hw (fun H locs hw => ?_)
  refine lv_icmp_eq (tgt := 1019) hx hb dL_law_1000 (by decide) (fun _ => ?_) (fun c2 => absurd rfl c2)
  exact hk σ _ _ _ hI2 hw hl

set_option maxRecDepth 100000 in
set_option maxHeartbeats 4000000 in
theorem lwc_digest {p : Program} {l : Launch} {e : Env} {s : State} {m : MethodId} {below : List Frame} {meth : Method} {c : Code} {b L : Nat} {xs : Nat → Int32} {G : Gp} {Inv : St → Prop} (C0 : lw_At p s m meth c b L xs) (hE : Ev G (aw s) s) (hM : MS_digest Inv) {i : Nat} (hi : i + 7 ≤ L) (hL : L ≤ 3584) {cells slots : Nat} (hf : cells ≤ room_1.cells ∧ slots ≤ room_1.slots) (hk : ∀ (σ : St) (H : Heap) (locs : List Loc) (ls : Array Slot), Inv σ → Ww G (aw s) σ s H locs → lv_has ls 4 [(0, .ref b), (1, .ref (ad G 0)), (2, .ref (ad G 72)), (3, .int (nI i))] → W p l e room_1 s m #[Value.ref b] below meth c H locs cells slots (lw_Z below #[Value.ref b] s) (F0 m 1019 ls [])) {σ : St} {H : Heap} {locs : List Loc} {ls : Array Slot} (hI : Inv σ) (hw : Ww G (aw s) σ s H locs) (hl : lv_has ls 4 [(0, .ref b), (1, .ref (ad G 0)), (2, .ref (ad G 72)), (3, .int (nI i))]) : W p l e room_1 s m #[Value.ref b] below meth c H locs cells slots (lw_Z below #[Value.ref b] s) (F0 m 1005 ls []) := by
  obtain ⟨hx, hb, hr, hml, hown, hts0, hX, hbl, hlocks, hgv⟩ := C0
  have hts : ∀ w ∈ wsL_law, w.before #[Value.ref b] s = true := fun w h => hts0 w (wsL_law_in w h)
  have SL : CallFix p m c cL_law 4 s #[Value.ref b] wsL_law RL := ⟨hx, hb, hml, hown, hts⟩
  have hbA : ¬ (aw s) b := Nat.not_le.mpr hbl
  refine lv_aload_n hx hb dL_law_1005 rfl (lv_at hl 1 rfl) ?_
  obtain ⟨r, g1, g2, hI2⟩ := hM σ hI 
  refine r_cl (r_runV (k := 0) (ci := 9) (As := []) (rest := []) SL hE hw (c_X9_digest l G (aw s) σ  g1) (cwV 0 hts gL_law_X9_digest rfl rfl rfl (by decide +kernel) ⟨Nat.le_of_ble_eq_true rfl, Nat.le_of_ble_eq_true rfl⟩) rfl rfl (by decide) rfl hl.1 rfl (Nat.le_of_ble_eq_true rfl) hf dL_law_1006) hw (fun H locs hw => ?_)
  refine lv_aload_n hx hb dL_law_1009 rfl (lv_at hl 2 rfl) ?_
  refine r_cl (r_runV (k := 72) (ci := 10) (As := []) (rest := [.long r]) SL hE hw (c_X10_digest l G (aw s) σ  g2) (cwV 0 hts gL_law_X10_digest rfl rfl rfl (by decide +kernel) ⟨Nat.le_of_ble_eq_true rfl, Nat.le_of_ble_eq_true rfl⟩) rfl rfl (by decide) rfl hl.1 rfl (Nat.le_of_ble_eq_true rfl) hf dL_law_1010) hw (fun H locs hw => ?_)
  refine W.lcmp hx hb dL_law_1013 ?_
  refine lv_if_eq (tgt := 1019) hx hb dL_law_1014 (by decide) (fun _ => ?_) (fun c2 => absurd (lg_self r) c2)
  exact hk σ _ _ _ hI2 hw hl
