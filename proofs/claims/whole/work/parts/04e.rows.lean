theorem mf102_X10_chased : Cond.fieldLink RX10 102 "GasVoyagesModel" "far" "[I" ∈ wsX10_chased := by decide +kernel
set_option maxRecDepth 20000 in
theorem iw10_X10_chased : ∀ w ∈ u_ws RX10 TX10 43, w ∈ wsX10_chased := by decide +kernel
theorem mf81_X10_chased : Cond.fieldLink RX10 81 "GasVoyagesModel" "cy" "[I" ∈ wsX10_chased := by decide +kernel
theorem mf78_X10_chased : Cond.fieldLink RX10 78 "GasVoyagesModel" "cx" "[I" ∈ wsX10_chased := by decide +kernel
theorem mf84_X10_chased : Cond.fieldLink RX10 84 "GasVoyagesModel" "pace" "[I" ∈ wsX10_chased := by decide +kernel
def f_X10_chased_64 (kn53 : St → Int32 → Int32 → Int32 → Int32 → Int32 → Option (Int32 × St)) : Nat → St → Int32 → Int32 → Int32 → Int32 → Int32 → Int32 → Option (Int32 × St)
  | 0, _, _, _, _, _, _, _ => none
  | n + 1, σ, x1, x2, x3, x4, x5, x6 => if 576 ≤ x6 then (kn53 σ x1 x2 x3 x4 (x5 + 1)) else (Option.bind (aL σ 101 576 x6) fun v2 => if v2 = x5 then (oB2 (f_X10_reaches σ ((x6 - x6 / 24 * 24) + 1) (x6 / 24) x5) fun v4 s5 => oB2 (f_X10_reaches s5 ((x6 - x6 / 24 * 24) - 1) (x6 / 24) x5) fun v7 s8 => oB2 (f_X10_reaches s8 (x6 - x6 / 24 * 24) ((x6 / 24) + 1) x5) fun v10 s11 => oB2 (f_X10_reaches s11 (x6 - x6 / 24 * 24) ((x6 / 24) - 1) x5) fun v13 s14 => if x4 = 0 then (if v4 = 0 then (if v7 = 0 then (if v10 = 0 then (if v13 = 0 then (f_X10_chased_64 kn53 n s14 x1 x2 x3 0 x5 (x6 + 1)) else (f_X10_chased_64 kn53 n s14 x1 x2 x3 1 x5 (x6 + 1))) else (f_X10_chased_64 kn53 n s14 x1 x2 x3 1 x5 (x6 + 1))) else (f_X10_chased_64 kn53 n s14 x1 x2 x3 1 x5 (x6 + 1))) else (f_X10_chased_64 kn53 n s14 x1 x2 x3 1 x5 (x6 + 1))) else (f_X10_chased_64 kn53 n s14 x1 x2 x3 1 x5 (x6 + 1))) else (f_X10_chased_64 kn53 n σ x1 x2 x3 x4 x5 (x6 + 1)))
set_option maxRecDepth 100000 in
set_option maxHeartbeats 4000000 in
theorem w_X10_chased_64 {p : Program} {l : Launch} {e : Env} {s : State} {m : MethodId} {args : Array Value} {below : List Frame} {meth : Method} {c : Code} {G : Gp} {A : Nat → Prop} (S : CallFix p m c cX10_chased 11 s args wsX10_chased RX10) (hr : meth.sig.returnType = (some .int)) (hlocks : meth.locks = false) (hE : Ev G A s) {kn53 : St → Int32 → Int32 → Int32 → Int32 → Int32 → Option (Int32 × St)} (hkn53 : ∀ (σ : St) (x1 : Int32) (x2 : Int32) (x3 : Int32) (x4 : Int32) (x5 : Int32) (r : Int32) (σ' : St), kn53 σ x1 x2 x3 x4 x5 = some (r, σ') → ∀ (H : Heap) (locs : List Loc) (ls : Array Slot), Ww G A σ s H locs → lv_has ls 11 [(0, .ref (ad G 72)), (1, .int x1), (2, .int x2), (3, .int x3), (4, .int x4), (5, .int x5)] → W p l e (rmd 3) s m args below meth c H locs 0 0 (Qi below args s G A r σ') (F0 m 53 ls [])) (n : Nat) (σ : St) (x1 : Int32) (x2 : Int32) (x3 : Int32) (x4 : Int32) (x5 : Int32) (x6 : Int32) {r : Int32} {σ' : St} (h : f_X10_chased_64  kn53 n σ x1 x2 x3 x4 x5 x6 = some (r, σ')) {H : Heap} {locs : List Loc} {ls : Array Slot} (hw : Ww G A σ s H locs) (hl : lv_has ls 11 [(0, .ref (ad G 72)), (1, .int x1), (2, .int x2), (3, .int x3), (4, .int x4), (5, .int x5), (6, .int x6)]) : W p l e (rmd 3) s m args below meth c H locs 0 0 (Qi below args s G A r σ') (F0 m 64 ls []) := by
  obtain ⟨hx, hb, hml, hown, hts⟩ := id S
  induction n generalizing σ x1 x2 x3 x4 x5 x6 r σ' H locs ls with
  | zero => cases h
  | succ n ih =>
    unfold f_X10_chased_64 at h
    refine lv_iload hx hb dX10_chased_64 (lv_at hl 6 rfl) ?_
    refine lv_sipush (v := 576) hx hb dX10_chased_66 (by decide) ?_
    refine lv_icmp_ge (tgt := 202) hx hb dX10_chased_69 (by decide) (fun c1 => ?_) (fun c1 => ?_)
    · have h := if_t c1 h
      refine lv_iinc (v := x5 + 1) (lv' := [(5, .int (x5 + 1)), (0, .ref (ad G 72)), (1, .int x1), (2, .int x2), (3, .int x3), (4, .int x4), (6, .int x6)]) hx hb dX10_chased_202 hl (k := 5) rfl rfl (by decide) rfl (fun ls hl => ?_)
      refine lv_goto (tgt := 53) hx hb dX10_chased_205 (by decide) ?_
      exact hkn53 σ x1 x2 x3 x4 (x5 + 1) _ _ h _ _ _ hw (lv_sub hl [1, 2, 3, 4, 5, 0] rfl)
    · have h := if_f c1 h
      refine lv_aload_n hx hb dX10_chased_72 rfl (lv_at hl 0 rfl) ?_
      refine r_gr S hE hw 41 101 iw10_X10_chased rfl rfl (by decide) rfl (hts _ mf102_X10_chased) dX10_chased_73 ?_
      refine lv_iload hx hb dX10_chased_76 (lv_at hl 6 rfl) ?_
      obtain ⟨v2, gv2, h⟩ := oB_out h
      refine r_al S hE hw rfl rfl gv2 dX10_chased_78 ?_
      refine lv_iload hx hb dX10_chased_79 (lv_at hl 5 rfl) ?_
      refine lv_icmp_ne (tgt := 196) hx hb dX10_chased_81 (by decide) (fun c3 => ?_) (fun c3 => ?_)
      · have h := if_f c3 h
        refine lv_iinc (v := x6 + 1) (lv' := [(6, .int (x6 + 1)), (0, .ref (ad G 72)), (1, .int x1), (2, .int x2), (3, .int x3), (4, .int x4), (5, .int x5)]) hx hb dX10_chased_196 hl (k := 6) rfl rfl (by decide) rfl (fun ls hl => ?_)
        refine lv_goto (tgt := 64) hx hb dX10_chased_199 (by decide) ?_
        exact ih σ x1 x2 x3 x4 x5 (x6 + 1) h hw (lv_sub hl [1, 2, 3, 4, 5, 6, 0] rfl)
      · have h := if_t c3 h
        refine lv_aload_n hx hb dX10_chased_84 rfl (lv_at hl 0 rfl) ?_
        refine lv_iload hx hb dX10_chased_85 (lv_at hl 6 rfl) ?_
        refine lv_bipush (v := 24) hx hb dX10_chased_87 (by decide) ?_
        refine lv_irem hx hb dX10_chased_89 (by decide) ?_
        refine lv_iconst (v := 1) hx hb dX10_chased_90 (by decide) ?_
        refine lv_iadd hx hb dX10_chased_91 ?_
        refine lv_iload hx hb dX10_chased_92 (lv_at hl 6 rfl) ?_
        refine lv_bipush (v := 24) hx hb dX10_chased_94 (by decide) ?_
        refine lv_idiv hx hb dX10_chased_96 (by decide) ?_
        refine lv_iload hx hb dX10_chased_97 (lv_at hl 5 rfl) ?_
        obtain ⟨v4, s5, gv4, h⟩ := oB2_out h
        refine r_cz (r_runV (k := 72) (ci := 10) (As := [.int ((x6 - x6 / 24 * 24) + 1), .int (x6 / 24), .int x5]) (rest := []) S hE hw (c_X10_reaches  l G A σ ((x6 - x6 / 24 * 24) + 1) (x6 / 24) x5 gv4) (cwV 3 hts gX10_chased_X10_reaches rfl rfl rfl (by decide +kernel) ⟨Nat.le_of_ble_eq_true rfl, Nat.le_of_ble_eq_true rfl⟩) rfl rfl (by decide) rfl hl.1 rfl (Nat.le_of_ble_eq_true rfl) ⟨Nat.zero_le _, Nat.zero_le _⟩ dX10_chased_99) hw (fun H locs hw hb6 => ?_)
        refine lv_istore (lv' := [(7, .int v4), (0, .ref (ad G 72)), (1, .int x1), (2, .int x2), (3, .int x3), (4, .int x4), (5, .int x5), (6, .int x6)]) hx hb dX10_chased_102 hl (by decide) rfl (fun ls hl => ?_)
        refine lv_aload_n hx hb dX10_chased_104 rfl (lv_at hl 1 rfl) ?_
        refine lv_iload hx hb dX10_chased_105 (lv_at hl 7 rfl) ?_
        refine lv_bipush (v := 24) hx hb dX10_chased_107 (by decide) ?_
        refine lv_irem hx hb dX10_chased_109 (by decide) ?_
        refine lv_iconst (v := 1) hx hb dX10_chased_110 (by decide) ?_
        refine lv_isub hx hb dX10_chased_111 ?_
        refine lv_iload hx hb dX10_chased_112 (lv_at hl 7 rfl) ?_
        refine lv_bipush (v := 24) hx hb dX10_chased_114 (by decide) ?_
        refine lv_idiv hx hb dX10_chased_116 (by decide) ?_
        refine lv_iload hx hb dX10_chased_117 (lv_at hl 6 rfl) ?_
        obtain ⟨v7, s8, gv7, h⟩ := oB2_out h
        refine r_cz (r_runV (k := 72) (ci := 10) (As := [.int ((x6 - x6 / 24 * 24) - 1), .int (x6 / 24), .int x5]) (rest := []) S hE hw (c_X10_reaches  l G A s5 ((x6 - x6 / 24 * 24) - 1) (x6 / 24) x5 gv7) (cwV 3 hts gX10_chased_X10_reaches rfl rfl rfl (by decide +kernel) ⟨Nat.le_of_ble_eq_true rfl, Nat.le_of_ble_eq_true rfl⟩) rfl rfl (by decide) rfl hl.1 rfl (Nat.le_of_ble_eq_true rfl) ⟨Nat.zero_le _, Nat.zero_le _⟩ dX10_chased_119) hw (fun H locs hw hb9 => ?_)
        refine lv_istore (lv' := [(8, .int v7), (7, .int v4), (0, .ref (ad G 72)), (1, .int x1), (2, .int x2), (3, .int x3), (4, .int x4), (5, .int x5), (6, .int x6)]) hx hb dX10_chased_122 hl (by decide) rfl (fun ls hl => ?_)
        refine lv_aload_n hx hb dX10_chased_124 rfl (lv_at hl 2 rfl) ?_
        refine lv_iload hx hb dX10_chased_125 (lv_at hl 8 rfl) ?_
        refine lv_bipush (v := 24) hx hb dX10_chased_127 (by decide) ?_
        refine lv_irem hx hb dX10_chased_129 (by decide) ?_
        refine lv_iload hx hb dX10_chased_130 (lv_at hl 8 rfl) ?_
        refine lv_bipush (v := 24) hx hb dX10_chased_132 (by decide) ?_
        refine lv_idiv hx hb dX10_chased_134 (by decide) ?_
        refine lv_iconst (v := 1) hx hb dX10_chased_135 (by decide) ?_
        refine lv_iadd hx hb dX10_chased_136 ?_
        refine lv_iload hx hb dX10_chased_137 (lv_at hl 7 rfl) ?_
        obtain ⟨v10, s11, gv10, h⟩ := oB2_out h
        refine r_cz (r_runV (k := 72) (ci := 10) (As := [.int (x6 - x6 / 24 * 24), .int ((x6 / 24) + 1), .int x5]) (rest := []) S hE hw (c_X10_reaches  l G A s8 (x6 - x6 / 24 * 24) ((x6 / 24) + 1) x5 gv10) (cwV 3 hts gX10_chased_X10_reaches rfl rfl rfl (by decide +kernel) ⟨Nat.le_of_ble_eq_true rfl, Nat.le_of_ble_eq_true rfl⟩) rfl rfl (by decide) rfl hl.1 rfl (Nat.le_of_ble_eq_true rfl) ⟨Nat.zero_le _, Nat.zero_le _⟩ dX10_chased_139) hw (fun H locs hw hb12 => ?_)
        refine lv_istore (lv' := [(9, .int v10), (8, .int v7), (7, .int v4), (0, .ref (ad G 72)), (1, .int x1), (2, .int x2), (3, .int x3), (4, .int x4), (5, .int x5), (6, .int x6)]) hx hb dX10_chased_142 hl (by decide) rfl (fun ls hl => ?_)
        refine lv_aload_n hx hb dX10_chased_144 rfl (lv_at hl 3 rfl) ?_
        refine lv_iload hx hb dX10_chased_145 (lv_at hl 9 rfl) ?_
        refine lv_bipush (v := 24) hx hb dX10_chased_147 (by decide) ?_
        refine lv_irem hx hb dX10_chased_149 (by decide) ?_
        refine lv_iload hx hb dX10_chased_150 (lv_at hl 9 rfl) ?_
        refine lv_bipush (v := 24) hx hb dX10_chased_152 (by decide) ?_
        refine lv_idiv hx hb dX10_chased_154 (by decide) ?_
        refine lv_iconst (v := 1) hx hb dX10_chased_155 (by decide) ?_
        refine lv_isub hx hb dX10_chased_156 ?_
        refine lv_iload hx hb dX10_chased_157 (lv_at hl 8 rfl) ?_
        obtain ⟨v13, s14, gv13, h⟩ := oB2_out h
        refine r_cz (r_runV (k := 72) (ci := 10) (As := [.int (x6 - x6 / 24 * 24), .int ((x6 / 24) - 1), .int x5]) (rest := []) S hE hw (c_X10_reaches  l G A s11 (x6 - x6 / 24 * 24) ((x6 / 24) - 1) x5 gv13) (cwV 3 hts gX10_chased_X10_reaches rfl rfl rfl (by decide +kernel) ⟨Nat.le_of_ble_eq_true rfl, Nat.le_of_ble_eq_true rfl⟩) rfl rfl (by decide) rfl hl.1 rfl (Nat.le_of_ble_eq_true rfl) ⟨Nat.zero_le _, Nat.zero_le _⟩ dX10_chased_159) hw (fun H locs hw hb15 => ?_)
        refine lv_istore (lv' := [(10, .int v13), (9, .int v10), (8, .int v7), (7, .int v4), (0, .ref (ad G 72)), (1, .int x1), (2, .int x2), (3, .int x3), (4, .int x4), (5, .int x5), (6, .int x6)]) hx hb dX10_chased_162 hl (by decide) rfl (fun ls hl => ?_)
        refine lv_iload hx hb dX10_chased_164 (lv_at hl 8 rfl) ?_
        refine lv_if_ne (tgt := 189) hx hb dX10_chased_166 (by decide) (fun c16 => ?_) (fun c16 => ?_)
        · have h := if_f c16 h
          refine lv_iconst (v := 1) hx hb dX10_chased_189 (by decide) ?_
          refine lv_goto (tgt := 194) hx hb dX10_chased_190 (by decide) ?_
          refine lv_istore (lv' := [(4, .int 1), (10, .int v13), (9, .int v10), (8, .int v7), (7, .int v4), (0, .ref (ad G 72)), (1, .int x1), (2, .int x2), (3, .int x3), (5, .int x5), (6, .int x6)]) hx hb dX10_chased_194 hl (by decide) rfl (fun ls hl => ?_)
          refine lv_iinc (v := x6 + 1) (lv' := [(6, .int (x6 + 1)), (4, .int 1), (10, .int v13), (9, .int v10), (8, .int v7), (7, .int v4), (0, .ref (ad G 72)), (1, .int x1), (2, .int x2), (3, .int x3), (5, .int x5)]) hx hb dX10_chased_196 hl (k := 10) rfl rfl (by decide) rfl (fun ls hl => ?_)
          refine lv_goto (tgt := 64) hx hb dX10_chased_199 (by decide) ?_
          exact ih s14 x1 x2 x3 1 x5 (x6 + 1) h hw (lv_sub hl [6, 7, 8, 9, 1, 10, 0] rfl)
        · have h := if_t c16 h
          refine lv_iload hx hb dX10_chased_169 (lv_at hl 3 rfl) ?_
          refine lv_if_ne (tgt := 189) hx hb dX10_chased_171 (by decide) (fun c17 => ?_) (fun c17 => ?_)
          · have h := if_f c17 h
            refine lv_iconst (v := 1) hx hb dX10_chased_189 (by decide) ?_
            refine lv_goto (tgt := 194) hx hb dX10_chased_190 (by decide) ?_
            refine lv_istore (lv' := [(4, .int 1), (10, .int v13), (9, .int v10), (8, .int v7), (7, .int v4), (0, .ref (ad G 72)), (1, .int x1), (2, .int x2), (3, .int x3), (5, .int x5), (6, .int x6)]) hx hb dX10_chased_194 hl (by decide) rfl (fun ls hl => ?_)
            refine lv_iinc (v := x6 + 1) (lv' := [(6, .int (x6 + 1)), (4, .int 1), (10, .int v13), (9, .int v10), (8, .int v7), (7, .int v4), (0, .ref (ad G 72)), (1, .int x1), (2, .int x2), (3, .int x3), (5, .int x5)]) hx hb dX10_chased_196 hl (k := 10) rfl rfl (by decide) rfl (fun ls hl => ?_)
            refine lv_goto (tgt := 64) hx hb dX10_chased_199 (by decide) ?_
            exact ih s14 x1 x2 x3 1 x5 (x6 + 1) h hw (lv_sub hl [6, 7, 8, 9, 1, 10, 0] rfl)
          · have h := if_t c17 h
            refine lv_iload hx hb dX10_chased_174 (lv_at hl 2 rfl) ?_
            refine lv_if_ne (tgt := 189) hx hb dX10_chased_176 (by decide) (fun c18 => ?_) (fun c18 => ?_)
            · have h := if_f c18 h
              refine lv_iconst (v := 1) hx hb dX10_chased_189 (by decide) ?_
              refine lv_goto (tgt := 194) hx hb dX10_chased_190 (by decide) ?_
              refine lv_istore (lv' := [(4, .int 1), (10, .int v13), (9, .int v10), (8, .int v7), (7, .int v4), (0, .ref (ad G 72)), (1, .int x1), (2, .int x2), (3, .int x3), (5, .int x5), (6, .int x6)]) hx hb dX10_chased_194 hl (by decide) rfl (fun ls hl => ?_)
              refine lv_iinc (v := x6 + 1) (lv' := [(6, .int (x6 + 1)), (4, .int 1), (10, .int v13), (9, .int v10), (8, .int v7), (7, .int v4), (0, .ref (ad G 72)), (1, .int x1), (2, .int x2), (3, .int x3), (5, .int x5)]) hx hb dX10_chased_196 hl (k := 10) rfl rfl (by decide) rfl (fun ls hl => ?_)
              refine lv_goto (tgt := 64) hx hb dX10_chased_199 (by decide) ?_
              exact ih s14 x1 x2 x3 1 x5 (x6 + 1) h hw (lv_sub hl [6, 7, 8, 9, 1, 10, 0] rfl)
            · have h := if_t c18 h
              refine lv_iload hx hb dX10_chased_179 (lv_at hl 1 rfl) ?_
              refine lv_if_ne (tgt := 189) hx hb dX10_chased_181 (by decide) (fun c19 => ?_) (fun c19 => ?_)
              · have h := if_f c19 h
                refine lv_iconst (v := 1) hx hb dX10_chased_189 (by decide) ?_
                refine lv_goto (tgt := 194) hx hb dX10_chased_190 (by decide) ?_
                refine lv_istore (lv' := [(4, .int 1), (10, .int v13), (9, .int v10), (8, .int v7), (7, .int v4), (0, .ref (ad G 72)), (1, .int x1), (2, .int x2), (3, .int x3), (5, .int x5), (6, .int x6)]) hx hb dX10_chased_194 hl (by decide) rfl (fun ls hl => ?_)
                refine lv_iinc (v := x6 + 1) (lv' := [(6, .int (x6 + 1)), (4, .int 1), (10, .int v13), (9, .int v10), (8, .int v7), (7, .int v4), (0, .ref (ad G 72)), (1, .int x1), (2, .int x2), (3, .int x3), (5, .int x5)]) hx hb dX10_chased_196 hl (k := 10) rfl rfl (by decide) rfl (fun ls hl => ?_)
                refine lv_goto (tgt := 64) hx hb dX10_chased_199 (by decide) ?_
                exact ih s14 x1 x2 x3 1 x5 (x6 + 1) h hw (lv_sub hl [6, 7, 8, 9, 1, 10, 0] rfl)
              · have h := if_t c19 h
                refine lv_iload hx hb dX10_chased_184 (lv_at hl 0 rfl) ?_
                refine lv_if_eq (tgt := 193) hx hb dX10_chased_186 (by decide) (fun c20 => ?_) (fun c20 => ?_)
                · have h := if_t c20 h
                  refine lv_iconst (v := 0) hx hb dX10_chased_193 (by decide) ?_
                  refine lv_istore (lv' := [(4, .int 0), (10, .int v13), (9, .int v10), (8, .int v7), (7, .int v4), (0, .ref (ad G 72)), (1, .int x1), (2, .int x2), (3, .int x3), (5, .int x5), (6, .int x6)]) hx hb dX10_chased_194 hl (by decide) rfl (fun ls hl => ?_)
                  refine lv_iinc (v := x6 + 1) (lv' := [(6, .int (x6 + 1)), (4, .int 0), (10, .int v13), (9, .int v10), (8, .int v7), (7, .int v4), (0, .ref (ad G 72)), (1, .int x1), (2, .int x2), (3, .int x3), (5, .int x5)]) hx hb dX10_chased_196 hl (k := 10) rfl rfl (by decide) rfl (fun ls hl => ?_)
                  refine lv_goto (tgt := 64) hx hb dX10_chased_199 (by decide) ?_
                  exact ih s14 x1 x2 x3 0 x5 (x6 + 1) h hw (lv_sub hl [6, 7, 8, 9, 1, 10, 0] rfl)
                · have h := if_f c20 h
                  refine lv_iconst (v := 1) hx hb dX10_chased_189 (by decide) ?_
                  refine lv_goto (tgt := 194) hx hb dX10_chased_190 (by decide) ?_
                  refine lv_istore (lv' := [(4, .int 1), (10, .int v13), (9, .int v10), (8, .int v7), (7, .int v4), (0, .ref (ad G 72)), (1, .int x1), (2, .int x2), (3, .int x3), (5, .int x5), (6, .int x6)]) hx hb dX10_chased_194 hl (by decide) rfl (fun ls hl => ?_)
                  refine lv_iinc (v := x6 + 1) (lv' := [(6, .int (x6 + 1)), (4, .int 1), (10, .int v13), (9, .int v10), (8, .int v7), (7, .int v4), (0, .ref (ad G 72)), (1, .int x1), (2, .int x2), (3, .int x3), (5, .int x5)]) hx hb dX10_chased_196 hl (k := 10) rfl rfl (by decide) rfl (fun ls hl => ?_)
                  refine lv_goto (tgt := 64) hx hb dX10_chased_199 (by decide) ?_
                  exact ih s14 x1 x2 x3 1 x5 (x6 + 1) h hw (lv_sub hl [6, 7, 8, 9, 1, 10, 0] rfl)

def f_X10_chased_208 (σ : St) (x1 : Int32) (x2 : Int32) (x3 : Int32) : Option (Int32 × St) := Option.bind (aL σ 101 576 ((24 * x3) + x2)) fun v1 => if v1 = (-1) then (some ((-1), σ)) else (Option.bind (aL σ 95 4 x1) fun v3 => Option.bind (aL σ 95 4 x1) fun v4 => Option.bind (nz v4) fun _ => some (((v1 + v3) - 1) / v4, σ))
set_option maxRecDepth 100000 in
set_option maxHeartbeats 4000000 in
theorem w_X10_chased_208 {p : Program} {l : Launch} {e : Env} {s : State} {m : MethodId} {args : Array Value} {below : List Frame} {meth : Method} {c : Code} {G : Gp} {A : Nat → Prop} (S : CallFix p m c cX10_chased 11 s args wsX10_chased RX10) (hr : meth.sig.returnType = (some .int)) (hlocks : meth.locks = false) (hE : Ev G A s) (σ : St) (x1 : Int32) (x2 : Int32) (x3 : Int32) {r : Int32} {σ' : St} (h : f_X10_chased_208   σ x1 x2 x3 = some (r, σ')) {H : Heap} {locs : List Loc} {ls : Array Slot} (hw : Ww G A σ s H locs) (hl : lv_has ls 11 [(0, .ref (ad G 72)), (1, .int x1), (2, .int x2), (3, .int x3)]) : W p l e (rmd 3) s m args below meth c H locs 0 0 (Qi below args s G A r σ') (F0 m 208 ls []) := by
  obtain ⟨hx, hb, hml, hown, hts⟩ := id S
  unfold f_X10_chased_208 at h
  refine lv_aload_n hx hb dX10_chased_208 rfl (lv_at hl 0 rfl) ?_
  refine r_gr S hE hw 41 101 iw10_X10_chased rfl rfl (by decide) rfl (hts _ mf102_X10_chased) dX10_chased_209 ?_
  refine lv_bipush (v := 24) hx hb dX10_chased_212 (by decide) ?_
  refine lv_iload_n hx hb dX10_chased_214 rfl (lv_at hl 3 rfl) ?_
  refine lv_imul hx hb dX10_chased_215 ?_
  refine lv_iload_n hx hb dX10_chased_216 rfl (lv_at hl 2 rfl) ?_
  refine lv_iadd hx hb dX10_chased_217 ?_
  obtain ⟨v1, gv1, h⟩ := oB_out h
  refine r_al S hE hw rfl rfl gv1 dX10_chased_218 ?_
  refine lv_istore (lv' := [(5, .int v1), (0, .ref (ad G 72)), (1, .int x1), (2, .int x2), (3, .int x3)]) hx hb dX10_chased_219 hl (by decide) rfl (fun ls hl => ?_)
  refine lv_iload hx hb dX10_chased_221 (lv_at hl 0 rfl) ?_
  refine lv_iconst (v := (-1)) hx hb dX10_chased_223 (by decide) ?_
  refine lv_icmp_ne (tgt := 231) hx hb dX10_chased_224 (by decide) (fun c2 => ?_) (fun c2 => ?_)
  · have h := if_f c2 h
    refine lv_iload hx hb dX10_chased_231 (lv_at hl 0 rfl) ?_
    refine lv_aload_n hx hb dX10_chased_233 rfl (lv_at hl 1 rfl) ?_
    refine r_gr S hE hw 26 95 iw10_X10_chased rfl rfl (by decide) rfl (hts _ mf84_X10_chased) dX10_chased_234 ?_
    refine lv_iload_n hx hb dX10_chased_237 rfl (lv_at hl 2 rfl) ?_
    obtain ⟨v3, gv3, h⟩ := oB_out h
    refine r_al S hE hw rfl rfl gv3 dX10_chased_238 ?_
    refine lv_iadd hx hb dX10_chased_239 ?_
    refine lv_iconst (v := 1) hx hb dX10_chased_240 (by decide) ?_
    refine lv_isub hx hb dX10_chased_241 ?_
    refine lv_aload_n hx hb dX10_chased_242 rfl (lv_at hl 1 rfl) ?_
    refine r_gr S hE hw 26 95 iw10_X10_chased rfl rfl (by decide) rfl (hts _ mf84_X10_chased) dX10_chased_243 ?_
    refine lv_iload_n hx hb dX10_chased_246 rfl (lv_at hl 2 rfl) ?_
    obtain ⟨v4, gv4, h⟩ := oB_out h
    refine r_al S hE hw rfl rfl gv4 dX10_chased_247 ?_
    obtain ⟨z5, gz5, h⟩ := oB_out h
    have gnz5 := (nz_in gz5).1
    refine lv_idiv hx hb dX10_chased_248 gnz5 ?_
    obtain ⟨rfl, rfl⟩ := rt2 h
    exact r_iret S hr hlocks hw dX10_chased_249
  · have h := if_t c2 h
    refine lv_iconst (v := (-1)) hx hb dX10_chased_227 (by decide) ?_
    refine lv_goto (tgt := 249) hx hb dX10_chased_228 (by decide) ?_
    obtain ⟨rfl, rfl⟩ := rt2 h
    exact r_iret S hr hlocks hw dX10_chased_249

def f_X10_chased_53 : Nat → St → Int32 → Int32 → Int32 → Int32 → Int32 → Option (Int32 × St)
  | 0, _, _, _, _, _, _ => none
  | n + 1, σ, x1, x2, x3, x4, x5 => if x4 = 0 then (f_X10_chased_208 σ x1 x2 x3) else (f_X10_chased_64 (fun σ x1 x2 x3 x4 x5 => f_X10_chased_53 n σ x1 x2 x3 x4 x5) 10000 σ x1 x2 x3 0 x5 0)
set_option maxRecDepth 100000 in
set_option maxHeartbeats 4000000 in
theorem w_X10_chased_53 {p : Program} {l : Launch} {e : Env} {s : State} {m : MethodId} {args : Array Value} {below : List Frame} {meth : Method} {c : Code} {G : Gp} {A : Nat → Prop} (S : CallFix p m c cX10_chased 11 s args wsX10_chased RX10) (hr : meth.sig.returnType = (some .int)) (hlocks : meth.locks = false) (hE : Ev G A s) (n : Nat) (σ : St) (x1 : Int32) (x2 : Int32) (x3 : Int32) (x4 : Int32) (x5 : Int32) {r : Int32} {σ' : St} (h : f_X10_chased_53   n σ x1 x2 x3 x4 x5 = some (r, σ')) {H : Heap} {locs : List Loc} {ls : Array Slot} (hw : Ww G A σ s H locs) (hl : lv_has ls 11 [(0, .ref (ad G 72)), (1, .int x1), (2, .int x2), (3, .int x3), (4, .int x4), (5, .int x5)]) : W p l e (rmd 3) s m args below meth c H locs 0 0 (Qi below args s G A r σ') (F0 m 53 ls []) := by
  obtain ⟨hx, hb, hml, hown, hts⟩ := id S
  induction n generalizing σ x1 x2 x3 x4 x5 r σ' H locs ls with
  | zero => cases h
  | succ n ih =>
    unfold f_X10_chased_53 at h
    refine lv_iload hx hb dX10_chased_53 (lv_at hl 4 rfl) ?_
    refine lv_if_eq (tgt := 208) hx hb dX10_chased_55 (by decide) (fun c1 => ?_) (fun c1 => ?_)
    · have h := if_t c1 h
      exact w_X10_chased_208   S hr hlocks hE   σ x1 x2 x3 h hw (lv_sub hl [0, 1, 2, 3] rfl)
    · have h := if_f c1 h
      refine lv_iconst (v := 0) hx hb dX10_chased_58 (by decide) ?_
      refine lv_istore (lv' := [(4, .int 0), (0, .ref (ad G 72)), (1, .int x1), (2, .int x2), (3, .int x3), (5, .int x5)]) hx hb dX10_chased_59 hl (by decide) rfl (fun ls hl => ?_)
      refine lv_iconst (v := 0) hx hb dX10_chased_61 (by decide) ?_
      refine lv_istore (lv' := [(6, .int 0), (4, .int 0), (0, .ref (ad G 72)), (1, .int x1), (2, .int x2), (3, .int x3), (5, .int x5)]) hx hb dX10_chased_62 hl (by decide) rfl (fun ls hl => ?_)
      exact w_X10_chased_64   S hr hlocks hE (fun σ x1 x2 x3 x4 x5  _ _ h _ _ _ hw hl => ih σ x1 x2 x3 x4 x5  h hw hl) 10000 σ x1 x2 x3 0 x5 0 h hw (lv_sub hl [2, 3, 4, 5, 1, 6, 0] rfl)

def f_X10_chased_25 (σ : St) (x1 : Int32) (x2 : Int32) (x3 : Int32) : Option (Int32 × St) := Option.bind (aL σ 94 4 x1) fun v1 => Option.bind (aL σ 93 4 x1) fun v2 => Option.bind (aS σ 101 576 ((24 * v1) + v2) 0) fun s3 => f_X10_chased_53 10000 s3 x1 x2 x3 1 0
set_option maxRecDepth 100000 in
set_option maxHeartbeats 4000000 in
theorem w_X10_chased_25 {p : Program} {l : Launch} {e : Env} {s : State} {m : MethodId} {args : Array Value} {below : List Frame} {meth : Method} {c : Code} {G : Gp} {A : Nat → Prop} (S : CallFix p m c cX10_chased 11 s args wsX10_chased RX10) (hr : meth.sig.returnType = (some .int)) (hlocks : meth.locks = false) (hE : Ev G A s) (σ : St) (x1 : Int32) (x2 : Int32) (x3 : Int32) {r : Int32} {σ' : St} (h : f_X10_chased_25   σ x1 x2 x3 = some (r, σ')) {H : Heap} {locs : List Loc} {ls : Array Slot} (hw : Ww G A σ s H locs) (hl : lv_has ls 11 [(0, .ref (ad G 72)), (1, .int x1), (2, .int x2), (3, .int x3)]) : W p l e (rmd 3) s m args below meth c H locs 0 0 (Qi below args s G A r σ') (F0 m 25 ls []) := by
  obtain ⟨hx, hb, hml, hown, hts⟩ := id S
  unfold f_X10_chased_25 at h
  refine lv_aload_n hx hb dX10_chased_25 rfl (lv_at hl 0 rfl) ?_
  refine r_gr S hE hw 41 101 iw10_X10_chased rfl rfl (by decide) rfl (hts _ mf102_X10_chased) dX10_chased_26 ?_
  refine lv_bipush (v := 24) hx hb dX10_chased_29 (by decide) ?_
  refine lv_aload_n hx hb dX10_chased_31 rfl (lv_at hl 0 rfl) ?_
  refine r_gr S hE hw 25 94 iw10_X10_chased rfl rfl (by decide) rfl (hts _ mf81_X10_chased) dX10_chased_32 ?_
  refine lv_iload_n hx hb dX10_chased_35 rfl (lv_at hl 1 rfl) ?_
  obtain ⟨v1, gv1, h⟩ := oB_out h
  refine r_al S hE hw rfl rfl gv1 dX10_chased_36 ?_
  refine lv_imul hx hb dX10_chased_37 ?_
  refine lv_aload_n hx hb dX10_chased_38 rfl (lv_at hl 0 rfl) ?_
  refine r_gr S hE hw 24 93 iw10_X10_chased rfl rfl (by decide) rfl (hts _ mf78_X10_chased) dX10_chased_39 ?_
  refine lv_iload_n hx hb dX10_chased_42 rfl (lv_at hl 1 rfl) ?_
  obtain ⟨v2, gv2, h⟩ := oB_out h
  refine r_al S hE hw rfl rfl gv2 dX10_chased_43 ?_
  refine lv_iadd hx hb dX10_chased_44 ?_
  refine lv_iconst (v := 0) hx hb dX10_chased_45 (by decide) ?_
  obtain ⟨s3, gs3, h⟩ := oB_out h
  refine r_as S hE hw rfl rfl gs3 dX10_chased_46 (fun H locs hw => ?_)
  refine lv_iconst (v := 1) hx hb dX10_chased_47 (by decide) ?_
  refine lv_istore (lv' := [(4, .int 1), (0, .ref (ad G 72)), (1, .int x1), (2, .int x2), (3, .int x3)]) hx hb dX10_chased_48 hl (by decide) rfl (fun ls hl => ?_)
  refine lv_iconst (v := 0) hx hb dX10_chased_50 (by decide) ?_
  refine lv_istore (lv' := [(5, .int 0), (4, .int 1), (0, .ref (ad G 72)), (1, .int x1), (2, .int x2), (3, .int x3)]) hx hb dX10_chased_51 hl (by decide) rfl (fun ls hl => ?_)
  exact w_X10_chased_53   S hr hlocks hE  10000 s3 x1 x2 x3 1 0 h hw (lv_sub hl [2, 3, 4, 5, 1, 0] rfl)

def f_X10_chased_3 : Nat → St → Int32 → Int32 → Int32 → Int32 → Option (Int32 × St)
  | 0, _, _, _, _, _ => none
  | n + 1, σ, x1, x2, x3, x4 => if 576 ≤ x4 then (f_X10_chased_25 σ x1 x2 x3) else (Option.bind (aS σ 101 576 x4 (-1)) fun s2 => f_X10_chased_3 n s2 x1 x2 x3 (x4 + 1))
set_option maxRecDepth 100000 in
set_option maxHeartbeats 4000000 in
theorem w_X10_chased_3 {p : Program} {l : Launch} {e : Env} {s : State} {m : MethodId} {args : Array Value} {below : List Frame} {meth : Method} {c : Code} {G : Gp} {A : Nat → Prop} (S : CallFix p m c cX10_chased 11 s args wsX10_chased RX10) (hr : meth.sig.returnType = (some .int)) (hlocks : meth.locks = false) (hE : Ev G A s) (n : Nat) (σ : St) (x1 : Int32) (x2 : Int32) (x3 : Int32) (x4 : Int32) {r : Int32} {σ' : St} (h : f_X10_chased_3   n σ x1 x2 x3 x4 = some (r, σ')) {H : Heap} {locs : List Loc} {ls : Array Slot} (hw : Ww G A σ s H locs) (hl : lv_has ls 11 [(0, .ref (ad G 72)), (1, .int x1), (2, .int x2), (3, .int x3), (4, .int x4)]) : W p l e (rmd 3) s m args below meth c H locs 0 0 (Qi below args s G A r σ') (F0 m 3 ls []) := by
  obtain ⟨hx, hb, hml, hown, hts⟩ := id S
  induction n generalizing σ x1 x2 x3 x4 r σ' H locs ls with
  | zero => cases h
  | succ n ih =>
    unfold f_X10_chased_3 at h
    refine lv_iload hx hb dX10_chased_3 (lv_at hl 4 rfl) ?_
    refine lv_sipush (v := 576) hx hb dX10_chased_5 (by decide) ?_
    refine lv_icmp_ge (tgt := 25) hx hb dX10_chased_8 (by decide) (fun c1 => ?_) (fun c1 => ?_)
    · have h := if_t c1 h
      exact w_X10_chased_25   S hr hlocks hE   σ x1 x2 x3 h hw (lv_sub hl [0, 1, 2, 3] rfl)
    · have h := if_f c1 h
      refine lv_aload_n hx hb dX10_chased_11 rfl (lv_at hl 0 rfl) ?_
      refine r_gr S hE hw 41 101 iw10_X10_chased rfl rfl (by decide) rfl (hts _ mf102_X10_chased) dX10_chased_12 ?_
      refine lv_iload hx hb dX10_chased_15 (lv_at hl 4 rfl) ?_
      refine lv_iconst (v := (-1)) hx hb dX10_chased_17 (by decide) ?_
      obtain ⟨s2, gs2, h⟩ := oB_out h
      refine r_as S hE hw rfl rfl gs2 dX10_chased_18 (fun H locs hw => ?_)
      refine lv_iinc (v := x4 + 1) (lv' := [(4, .int (x4 + 1)), (0, .ref (ad G 72)), (1, .int x1), (2, .int x2), (3, .int x3)]) hx hb dX10_chased_19 hl (k := 4) rfl rfl (by decide) rfl (fun ls hl => ?_)
      refine lv_goto (tgt := 3) hx hb dX10_chased_22 (by decide) ?_
      exact ih s2 x1 x2 x3 (x4 + 1) h hw (lv_sub hl [1, 2, 3, 4, 0] rfl)

def f_X10_chased (σ : St) (p1 : Int32) (p2 : Int32) (p3 : Int32) : Option (Int32 × St) := f_X10_chased_3 10000 σ p1 p2 p3 0
set_option maxRecDepth 100000 in
set_option maxHeartbeats 4000000 in
theorem c_X10_chased (l : Launch) (G : Gp) (A : Nat → Prop) (σ : St) (p1 : Int32) (p2 : Int32) (p3 : Int32) {r : Int32} {σ' : St} (h : f_X10_chased σ p1 p2 p3 = some (r, σ')) : Ki l yX10_chased wsX10_chased 3 G A [.ref (ad G 72), .int p1, .int p2, .int p3] σ r σ' := by
  unfold f_X10_chased at h
  refine r_start (ws := wsX10_chased) (d := 3) (by decide) rfl [.ref (ad G 72), .int p1, .int p2, .int p3] (Nat.le_of_ble_eq_true rfl) ?_
  intro p e s m below meth c S hr hlocks hE hw ls hl
  have hl : lv_has ls 11 [(0, .ref (ad G 72)), (1, .int p1), (2, .int p2), (3, .int p3)] := hl
  obtain ⟨hx, hb, hml, hown, hts⟩ := id S
  refine lv_iconst (v := 0) hx hb dX10_chased_0 (by decide) ?_
  refine lv_istore (lv' := [(4, .int 0), (0, .ref (ad G 72)), (1, .int p1), (2, .int p2), (3, .int p3)]) hx hb dX10_chased_1 hl (by decide) rfl (fun ls hl => ?_)
  exact w_X10_chased_3   S hr hlocks hE  10000 σ p1 p2 p3 0 h hw (lv_sub hl [1, 2, 3, 4, 0] rfl)


theorem mf115_X10_chase : Cond.fieldLink RX10 115 "GasVoyagesModel" "chasers" "I" ∈ wsX10_chase := by decide +kernel
set_option maxRecDepth 20000 in
theorem iw10_X10_chase : ∀ w ∈ u_ws RX10 TX10 43, w ∈ wsX10_chase := by decide +kernel
def f_X10_chase (σ : St) (p1 : Int32) (p2 : Int32) (p3 : Int32) : Option (Int32 × St) := if (f_X10_in p1 0 ((σ.1 72 23) - 1)) = 0 then (some ((-2), σ)) else (if (f_X10_isCell σ p2 p3) = 0 then (some ((-2), σ)) else (oB2 (f_X10_chased σ p1 p2 p3) fun v5 s6 => some (v5, s6)))
set_option maxRecDepth 100000 in
set_option maxHeartbeats 4000000 in
theorem c_X10_chase (l : Launch) (G : Gp) (A : Nat → Prop) (σ : St) (p1 : Int32) (p2 : Int32) (p3 : Int32) {r : Int32} {σ' : St} (h : f_X10_chase σ p1 p2 p3 = some (r, σ')) : Ki l yX10_chase wsX10_chase 4 G A [.ref (ad G 72), .int p1, .int p2, .int p3] σ r σ' := by
  unfold f_X10_chase at h
  refine r_start (ws := wsX10_chase) (d := 4) (by decide) rfl [.ref (ad G 72), .int p1, .int p2, .int p3] (Nat.le_of_ble_eq_true rfl) ?_
  intro p e s m below meth c S hr hlocks hE hw ls hl
  have hl : lv_has ls 4 [(0, .ref (ad G 72)), (1, .int p1), (2, .int p2), (3, .int p3)] := hl
  obtain ⟨hx, hb, hml, hown, hts⟩ := id S
  refine lv_iload_n hx hb dX10_chase_0 rfl (lv_at hl 1 rfl) ?_
  refine lv_iconst (v := 0) hx hb dX10_chase_1 (by decide) ?_
  refine lv_aload_n hx hb dX10_chase_2 rfl (lv_at hl 0 rfl) ?_
  refine r_gi S hE hw 23 iw10_X10_chase rfl rfl (by decide) (hts _ mf115_X10_chase) dX10_chase_3 ?_
  refine lv_iconst (v := 1) hx hb dX10_chase_6 (by decide) ?_
  refine lv_isub hx hb dX10_chase_7 ?_
  refine r_cz (r_runS (As := [.int p1, .int 0, .int ((σ.1 72 23) - 1)]) (rest := []) S hE hw (c_X10_in  l G A σ p1 0 ((σ.1 72 23) - 1)) (va_cwS 3 hts gX10_chase_X10_in rfl rfl rfl (by decide +kernel) ⟨Nat.le_of_ble_eq_true rfl, Nat.le_of_ble_eq_true rfl⟩) rfl hl.1 rfl (Nat.le_of_ble_eq_true rfl) ⟨Nat.zero_le _, Nat.zero_le _⟩ dX10_chase_8) hw (fun H locs hw hb1 => ?_)
  refine lv_if_eq (tgt := 33) hx hb dX10_chase_11 (by decide) (fun c2 => ?_) (fun c2 => ?_)
  · have h := if_t c2 h
    refine lv_bipush (v := (-2)) hx hb dX10_chase_33 (by decide) ?_
    obtain ⟨rfl, rfl⟩ := rt2 h
    exact r_iret S hr hlocks hw dX10_chase_35
  · have h := if_f c2 h
    refine lv_aload_n hx hb dX10_chase_14 rfl (lv_at hl 0 rfl) ?_
    refine lv_iload_n hx hb dX10_chase_15 rfl (lv_at hl 2 rfl) ?_
    refine lv_iload_n hx hb dX10_chase_16 rfl (lv_at hl 3 rfl) ?_
    refine r_cz (r_runV (k := 72) (ci := 10) (As := [.int p2, .int p3]) (rest := []) S hE hw (c_X10_isCell  l G A σ p2 p3) (cwV 2 hts gX10_chase_X10_isCell rfl rfl rfl (by decide +kernel) ⟨Nat.le_of_ble_eq_true rfl, Nat.le_of_ble_eq_true rfl⟩) rfl rfl (by decide) rfl hl.1 rfl (Nat.le_of_ble_eq_true rfl) ⟨Nat.zero_le _, Nat.zero_le _⟩ dX10_chase_17) hw (fun H locs hw hb3 => ?_)
    refine lv_if_eq (tgt := 33) hx hb dX10_chase_20 (by decide) (fun c4 => ?_) (fun c4 => ?_)
    · have h := if_t c4 h
      refine lv_bipush (v := (-2)) hx hb dX10_chase_33 (by decide) ?_
      obtain ⟨rfl, rfl⟩ := rt2 h
      exact r_iret S hr hlocks hw dX10_chase_35
    · have h := if_f c4 h
      refine lv_aload_n hx hb dX10_chase_23 rfl (lv_at hl 0 rfl) ?_
      refine lv_iload_n hx hb dX10_chase_24 rfl (lv_at hl 1 rfl) ?_
      refine lv_iload_n hx hb dX10_chase_25 rfl (lv_at hl 2 rfl) ?_
      refine lv_iload_n hx hb dX10_chase_26 rfl (lv_at hl 3 rfl) ?_
      obtain ⟨v5, s6, gv5, h⟩ := oB2_out h
      refine r_ci (r_runV (k := 72) (ci := 10) (As := [.int p1, .int p2, .int p3]) (rest := []) S hE hw (c_X10_chased  l G A σ p1 p2 p3 gv5) (cwV 3 hts gX10_chase_X10_chased rfl rfl rfl (by decide +kernel) ⟨Nat.le_of_ble_eq_true rfl, Nat.le_of_ble_eq_true rfl⟩) rfl rfl (by decide) rfl hl.1 rfl (Nat.le_of_ble_eq_true rfl) ⟨Nat.zero_le _, Nat.zero_le _⟩ dX10_chase_27) hw (fun H locs hw => ?_)
      refine lv_goto (tgt := 35) hx hb dX10_chase_30 (by decide) ?_
      obtain ⟨rfl, rfl⟩ := rt2 h
      exact r_iret S hr hlocks hw dX10_chase_35


theorem mf115_X10_first : Cond.fieldLink RX10 115 "GasVoyagesModel" "chasers" "I" ∈ wsX10_first := by decide +kernel
set_option maxRecDepth 20000 in
theorem iw10_X10_first : ∀ w ∈ u_ws RX10 TX10 43, w ∈ wsX10_first := by decide +kernel
theorem mf35_X10_first : Cond.fieldLink RX10 35 "GasVoyagesModel" "fx" "[I" ∈ wsX10_first := by decide +kernel
theorem mf38_X10_first : Cond.fieldLink RX10 38 "GasVoyagesModel" "fy" "[I" ∈ wsX10_first := by decide +kernel
def f_X10_first_64 (kn18 : St → Int32 → Int32 → Int32 → Int32 → Option (Int32 × St)) (σ : St) (x1 : Int32) (x4 : Int32) (x5 : Int32) : Option (Int32 × St) := kn18 σ x1 x4 x5 (x4 + 1)
set_option maxRecDepth 100000 in
set_option maxHeartbeats 4000000 in
theorem w_X10_first_64 {p : Program} {l : Launch} {e : Env} {s : State} {m : MethodId} {args : Array Value} {below : List Frame} {meth : Method} {c : Code} {G : Gp} {A : Nat → Prop} (S : CallFix p m c cX10_first 6 s args wsX10_first RX10) (hr : meth.sig.returnType = (some .int)) (hlocks : meth.locks = false) (hE : Ev G A s) {kn18 : St → Int32 → Int32 → Int32 → Int32 → Option (Int32 × St)} (hkn18 : ∀ (σ : St) (x1 : Int32) (x2 : Int32) (x3 : Int32) (x4 : Int32) (r : Int32) (σ' : St), kn18 σ x1 x2 x3 x4 = some (r, σ') → ∀ (H : Heap) (locs : List Loc) (ls : Array Slot), Ww G A σ s H locs → lv_has ls 6 [(0, .ref (ad G 72)), (1, .int x1), (2, .int x2), (3, .int x3), (4, .int x4)] → W p l e (rmd 4) s m args below meth c H locs 0 0 (Qi below args s G A r σ') (F0 m 18 ls [])) (σ : St) (x1 : Int32) (x4 : Int32) (x5 : Int32) {r : Int32} {σ' : St} (h : f_X10_first_64  kn18 σ x1 x4 x5 = some (r, σ')) {H : Heap} {locs : List Loc} {ls : Array Slot} (hw : Ww G A σ s H locs) (hl : lv_has ls 6 [(0, .ref (ad G 72)), (1, .int x1), (4, .int x4), (5, .int x5)]) : W p l e (rmd 4) s m args below meth c H locs 0 0 (Qi below args s G A r σ') (F0 m 64 ls []) := by
  obtain ⟨hx, hb, hml, hown, hts⟩ := id S
  unfold f_X10_first_64 at h
  refine lv_iload hx hb dX10_first_64 (lv_at hl 2 rfl) ?_
  refine lv_istore_n (lv' := [(2, .int x4), (0, .ref (ad G 72)), (1, .int x1), (4, .int x4), (5, .int x5)]) hx hb dX10_first_66 rfl hl (by decide) rfl (fun ls hl => ?_)
  refine lv_iload hx hb dX10_first_67 (lv_at hl 4 rfl) ?_
  refine lv_istore_n (lv' := [(3, .int x5), (2, .int x4), (0, .ref (ad G 72)), (1, .int x1), (4, .int x4), (5, .int x5)]) hx hb dX10_first_69 rfl hl (by decide) rfl (fun ls hl => ?_)
  refine lv_iinc (v := x4 + 1) (lv' := [(4, .int (x4 + 1)), (3, .int x5), (2, .int x4), (0, .ref (ad G 72)), (1, .int x1), (5, .int x5)]) hx hb dX10_first_70 hl (k := 4) rfl rfl (by decide) rfl (fun ls hl => ?_)
  refine lv_goto (tgt := 18) hx hb dX10_first_73 (by decide) ?_
  exact hkn18 σ x1 x4 x5 (x4 + 1) _ _ h _ _ _ hw (lv_sub hl [3, 4, 2, 1, 0] rfl)

def f_X10_first_18 : Nat → St → Int32 → Int32 → Int32 → Int32 → Option (Int32 × St)
  | 0, _, _, _, _, _ => none
  | n + 1, σ, x1, x2, x3, x4 => if (σ.1 72 23) ≤ x4 then (some (x2, σ)) else (Option.bind (aL σ 79 8 x1) fun v2 => Option.bind (aL σ 80 8 x1) fun v3 => oB2 (f_X10_chased σ x4 v2 v3) fun v4 s5 => if v4 = (-1) then (f_X10_first_18 n s5 x1 x2 x3 (x4 + 1)) else (if x2 = (-1) then (f_X10_first_64 (fun σ x1 x2 x3 x4 => f_X10_first_18 n σ x1 x2 x3 x4) s5 x1 x4 v4) else (if x3 ≤ v4 then (f_X10_first_18 n s5 x1 x2 x3 (x4 + 1)) else (f_X10_first_64 (fun σ x1 x2 x3 x4 => f_X10_first_18 n σ x1 x2 x3 x4) s5 x1 x4 v4))))
set_option maxRecDepth 100000 in
set_option maxHeartbeats 4000000 in
theorem w_X10_first_18 {p : Program} {l : Launch} {e : Env} {s : State} {m : MethodId} {args : Array Value} {below : List Frame} {meth : Method} {c : Code} {G : Gp} {A : Nat → Prop} (S : CallFix p m c cX10_first 6 s args wsX10_first RX10) (hr : meth.sig.returnType = (some .int)) (hlocks : meth.locks = false) (hE : Ev G A s) (n : Nat) (σ : St) (x1 : Int32) (x2 : Int32) (x3 : Int32) (x4 : Int32) {r : Int32} {σ' : St} (h : f_X10_first_18   n σ x1 x2 x3 x4 = some (r, σ')) {H : Heap} {locs : List Loc} {ls : Array Slot} (hw : Ww G A σ s H locs) (hl : lv_has ls 6 [(0, .ref (ad G 72)), (1, .int x1), (2, .int x2), (3, .int x3), (4, .int x4)]) : W p l e (rmd 4) s m args below meth c H locs 0 0 (Qi below args s G A r σ') (F0 m 18 ls []) := by
  obtain ⟨hx, hb, hml, hown, hts⟩ := id S
  induction n generalizing σ x1 x2 x3 x4 r σ' H locs ls with
  | zero => cases h
  | succ n ih =>
    unfold f_X10_first_18 at h
    refine lv_iload hx hb dX10_first_18 (lv_at hl 4 rfl) ?_
    refine lv_aload_n hx hb dX10_first_20 rfl (lv_at hl 0 rfl) ?_
    refine r_gi S hE hw 23 iw10_X10_first rfl rfl (by decide) (hts _ mf115_X10_first) dX10_first_21 ?_
    refine lv_icmp_ge (tgt := 76) hx hb dX10_first_24 (by decide) (fun c1 => ?_) (fun c1 => ?_)
    · have h := if_t c1 h
      refine lv_iload_n hx hb dX10_first_76 rfl (lv_at hl 2 rfl) ?_
      obtain ⟨rfl, rfl⟩ := rt2 h
      exact r_iret S hr hlocks hw dX10_first_77
    · have h := if_f c1 h
      refine lv_aload_n hx hb dX10_first_27 rfl (lv_at hl 0 rfl) ?_
      refine lv_iload hx hb dX10_first_28 (lv_at hl 4 rfl) ?_
      refine lv_aload_n hx hb dX10_first_30 rfl (lv_at hl 0 rfl) ?_
      refine r_gr S hE hw 9 79 iw10_X10_first rfl rfl (by decide) rfl (hts _ mf35_X10_first) dX10_first_31 ?_
      refine lv_iload_n hx hb dX10_first_34 rfl (lv_at hl 1 rfl) ?_
      obtain ⟨v2, gv2, h⟩ := oB_out h
      refine r_al S hE hw rfl rfl gv2 dX10_first_35 ?_
      refine lv_aload_n hx hb dX10_first_36 rfl (lv_at hl 0 rfl) ?_
      refine r_gr S hE hw 10 80 iw10_X10_first rfl rfl (by decide) rfl (hts _ mf38_X10_first) dX10_first_37 ?_
      refine lv_iload_n hx hb dX10_first_40 rfl (lv_at hl 1 rfl) ?_
      obtain ⟨v3, gv3, h⟩ := oB_out h
      refine r_al S hE hw rfl rfl gv3 dX10_first_41 ?_
      obtain ⟨v4, s5, gv4, h⟩ := oB2_out h
      refine r_ci (r_runV (k := 72) (ci := 10) (As := [.int x4, .int v2, .int v3]) (rest := []) S hE hw (c_X10_chased  l G A σ x4 v2 v3 gv4) (cwV 3 hts gX10_first_X10_chased rfl rfl rfl (by decide +kernel) ⟨Nat.le_of_ble_eq_true rfl, Nat.le_of_ble_eq_true rfl⟩) rfl rfl (by decide) rfl hl.1 rfl (Nat.le_of_ble_eq_true rfl) ⟨Nat.zero_le _, Nat.zero_le _⟩ dX10_first_42) hw (fun H locs hw => ?_)
      refine lv_istore (lv' := [(5, .int v4), (0, .ref (ad G 72)), (1, .int x1), (2, .int x2), (3, .int x3), (4, .int x4)]) hx hb dX10_first_45 hl (by decide) rfl (fun ls hl => ?_)
      refine lv_iload hx hb dX10_first_47 (lv_at hl 0 rfl) ?_
      refine lv_iconst (v := (-1)) hx hb dX10_first_49 (by decide) ?_
      refine lv_icmp_eq (tgt := 70) hx hb dX10_first_50 (by decide) (fun c6 => ?_) (fun c6 => ?_)
      · have h := if_t c6 h
        refine lv_iinc (v := x4 + 1) (lv' := [(4, .int (x4 + 1)), (5, .int v4), (0, .ref (ad G 72)), (1, .int x1), (2, .int x2), (3, .int x3)]) hx hb dX10_first_70 hl (k := 5) rfl rfl (by decide) rfl (fun ls hl => ?_)
        refine lv_goto (tgt := 18) hx hb dX10_first_73 (by decide) ?_
        exact ih s5 x1 x2 x3 (x4 + 1) h hw (lv_sub hl [2, 3, 4, 5, 0] rfl)
      · have h := if_f c6 h
        refine lv_iload_n hx hb dX10_first_53 rfl (lv_at hl 3 rfl) ?_
        refine lv_iconst (v := (-1)) hx hb dX10_first_54 (by decide) ?_
        refine lv_icmp_eq (tgt := 64) hx hb dX10_first_55 (by decide) (fun c7 => ?_) (fun c7 => ?_)
        · have h := if_t c7 h
          exact w_X10_first_64   S hr hlocks hE (fun σ x1 x2 x3 x4  _ _ h _ _ _ hw hl => ih σ x1 x2 x3 x4  h hw hl)  s5 x1 x4 v4 h hw (lv_sub hl [1, 2, 5, 0] rfl)
        · have h := if_f c7 h
          refine lv_iload hx hb dX10_first_58 (lv_at hl 0 rfl) ?_
          refine lv_iload_n hx hb dX10_first_60 rfl (lv_at hl 4 rfl) ?_
          refine lv_icmp_ge (tgt := 70) hx hb dX10_first_61 (by decide) (fun c8 => ?_) (fun c8 => ?_)
          · have h := if_t c8 h
            refine lv_iinc (v := x4 + 1) (lv' := [(4, .int (x4 + 1)), (5, .int v4), (0, .ref (ad G 72)), (1, .int x1), (2, .int x2), (3, .int x3)]) hx hb dX10_first_70 hl (k := 5) rfl rfl (by decide) rfl (fun ls hl => ?_)
            refine lv_goto (tgt := 18) hx hb dX10_first_73 (by decide) ?_
            exact ih s5 x1 x2 x3 (x4 + 1) h hw (lv_sub hl [2, 3, 4, 5, 0] rfl)
          · have h := if_f c8 h
            exact w_X10_first_64   S hr hlocks hE (fun σ x1 x2 x3 x4  _ _ h _ _ _ hw hl => ih σ x1 x2 x3 x4  h hw hl)  s5 x1 x4 v4 h hw (lv_sub hl [1, 2, 5, 0] rfl)

def f_X10_first (σ : St) (p1 : Int32) : Option (Int32 × St) := if (f_X10_isFlight σ p1) = 0 then (some ((-2), σ)) else (f_X10_first_18 10000 σ p1 (-1) (-1) 0)
set_option maxRecDepth 100000 in
set_option maxHeartbeats 4000000 in
theorem c_X10_first (l : Launch) (G : Gp) (A : Nat → Prop) (σ : St) (p1 : Int32) {r : Int32} {σ' : St} (h : f_X10_first σ p1 = some (r, σ')) : Ki l yX10_first wsX10_first 4 G A [.ref (ad G 72), .int p1] σ r σ' := by
  unfold f_X10_first at h
  refine r_start (ws := wsX10_first) (d := 4) (by decide) rfl [.ref (ad G 72), .int p1] (Nat.le_of_ble_eq_true rfl) ?_
  intro p e s m below meth c S hr hlocks hE hw ls hl
  have hl : lv_has ls 6 [(0, .ref (ad G 72)), (1, .int p1)] := hl
  obtain ⟨hx, hb, hml, hown, hts⟩ := id S
  refine lv_aload_n hx hb dX10_first_0 rfl (lv_at hl 0 rfl) ?_
  refine lv_iload_n hx hb dX10_first_1 rfl (lv_at hl 1 rfl) ?_
  refine r_cz (r_runV (k := 72) (ci := 10) (As := [.int p1]) (rest := []) S hE hw (c_X10_isFlight  l G A σ p1) (cwV 1 hts gX10_first_X10_isFlight rfl rfl rfl (by decide +kernel) ⟨Nat.le_of_ble_eq_true rfl, Nat.le_of_ble_eq_true rfl⟩) rfl rfl (by decide) rfl hl.1 rfl (Nat.le_of_ble_eq_true rfl) ⟨Nat.zero_le _, Nat.zero_le _⟩ dX10_first_2) hw (fun H locs hw hb1 => ?_)
  refine lv_if_ne (tgt := 11) hx hb dX10_first_5 (by decide) (fun c2 => ?_) (fun c2 => ?_)
  · have h := if_f c2 h
    refine lv_iconst (v := (-1)) hx hb dX10_first_11 (by decide) ?_
    refine lv_istore_n (lv' := [(2, .int (-1)), (0, .ref (ad G 72)), (1, .int p1)]) hx hb dX10_first_12 rfl hl (by decide) rfl (fun ls hl => ?_)
    refine lv_iconst (v := (-1)) hx hb dX10_first_13 (by decide) ?_
    refine lv_istore_n (lv' := [(3, .int (-1)), (2, .int (-1)), (0, .ref (ad G 72)), (1, .int p1)]) hx hb dX10_first_14 rfl hl (by decide) rfl (fun ls hl => ?_)
    refine lv_iconst (v := 0) hx hb dX10_first_15 (by decide) ?_
    refine lv_istore (lv' := [(4, .int 0), (3, .int (-1)), (2, .int (-1)), (0, .ref (ad G 72)), (1, .int p1)]) hx hb dX10_first_16 hl (by decide) rfl (fun ls hl => ?_)
    exact w_X10_first_18   S hr hlocks hE  10000 σ p1 (-1) (-1) 0 h hw (lv_sub hl [3, 4, 2, 1, 0] rfl)
  · have h := if_t c2 h
    refine lv_bipush (v := (-2)) hx hb dX10_first_8 (by decide) ?_
    obtain ⟨rfl, rfl⟩ := rt2 h
    exact r_iret S hr hlocks hw dX10_first_10


theorem mf66_X10_isAhead : Cond.fieldLink RX10 66 "GasVoyagesModel" "entries" "[I" ∈ wsX10_isAhead := by decide +kernel
set_option maxRecDepth 20000 in
theorem iw10_X10_isAhead : ∀ w ∈ u_ws RX10 TX10 43, w ∈ wsX10_isAhead := by decide +kernel
def f_X10_isAhead (σ : St) (p1 : Int32) (p2 : Int32) : Option Int32 := Option.bind (f_X10_distanceFlown σ p1) fun v1 => Option.bind (f_X10_distanceFlown σ p2) fun v2 => if v1 = v2 then (Option.bind (aL σ 89 8 p1) fun v4 => Option.bind (aL σ 89 8 p2) fun v5 => if v4 = v5 then (if p2 ≤ p1 then (some 0) else (some 1)) else (Option.bind (aL σ 89 8 p1) fun v8 => Option.bind (aL σ 89 8 p2) fun v9 => if v9 ≤ v8 then (some 0) else (some 1))) else (if v1 ≤ v2 then (some 0) else (some 1))
set_option maxRecDepth 100000 in
set_option maxHeartbeats 4000000 in
theorem c_X10_isAhead (l : Launch) (G : Gp) (A : Nat → Prop) (σ : St) (p1 : Int32) (p2 : Int32) {r : Int32} (h : f_X10_isAhead σ p1 p2 = some r) : Kz l yX10_isAhead wsX10_isAhead 2 G A [.ref (ad G 72), .int p1, .int p2] σ r σ := by
  unfold f_X10_isAhead at h
  refine r_start (ws := wsX10_isAhead) (d := 2) (by decide) rfl [.ref (ad G 72), .int p1, .int p2] (Nat.le_of_ble_eq_true rfl) ?_
  intro p e s m below meth c S hr hlocks hE hw ls hl
  have hl : lv_has ls 5 [(0, .ref (ad G 72)), (1, .int p1), (2, .int p2)] := hl
  obtain ⟨hx, hb, hml, hown, hts⟩ := id S
  refine lv_aload_n hx hb dX10_isAhead_0 rfl (lv_at hl 0 rfl) ?_
  refine lv_iload_n hx hb dX10_isAhead_1 rfl (lv_at hl 1 rfl) ?_
  obtain ⟨v1, gv1, h⟩ := oB_out h
  refine r_ci (r_runV (k := 72) (ci := 10) (As := [.int p1]) (rest := []) S hE hw (c_X10_distanceFlown  l G A σ p1 gv1) (cwV 1 hts gX10_isAhead_X10_distanceFlown rfl rfl rfl (by decide +kernel) ⟨Nat.le_of_ble_eq_true rfl, Nat.le_of_ble_eq_true rfl⟩) rfl rfl (by decide) rfl hl.1 rfl (Nat.le_of_ble_eq_true rfl) ⟨Nat.zero_le _, Nat.zero_le _⟩ dX10_isAhead_2) hw (fun H locs hw => ?_)
  refine lv_istore_n (lv' := [(3, .int v1), (0, .ref (ad G 72)), (1, .int p1), (2, .int p2)]) hx hb dX10_isAhead_5 rfl hl (by decide) rfl (fun ls hl => ?_)
  refine lv_aload_n hx hb dX10_isAhead_6 rfl (lv_at hl 1 rfl) ?_
  refine lv_iload_n hx hb dX10_isAhead_7 rfl (lv_at hl 3 rfl) ?_
  obtain ⟨v2, gv2, h⟩ := oB_out h
  refine r_ci (r_runV (k := 72) (ci := 10) (As := [.int p2]) (rest := []) S hE hw (c_X10_distanceFlown  l G A σ p2 gv2) (cwV 1 hts gX10_isAhead_X10_distanceFlown rfl rfl rfl (by decide +kernel) ⟨Nat.le_of_ble_eq_true rfl, Nat.le_of_ble_eq_true rfl⟩) rfl rfl (by decide) rfl hl.1 rfl (Nat.le_of_ble_eq_true rfl) ⟨Nat.zero_le _, Nat.zero_le _⟩ dX10_isAhead_8) hw (fun H locs hw => ?_)
  refine lv_istore (lv' := [(4, .int v2), (3, .int v1), (0, .ref (ad G 72)), (1, .int p1), (2, .int p2)]) hx hb dX10_isAhead_11 hl (by decide) rfl (fun ls hl => ?_)
  refine lv_iload_n hx hb dX10_isAhead_13 rfl (lv_at hl 1 rfl) ?_
  refine lv_iload hx hb dX10_isAhead_14 (lv_at hl 0 rfl) ?_
  refine lv_icmp_eq (tgt := 31) hx hb dX10_isAhead_16 (by decide) (fun c3 => ?_) (fun c3 => ?_)
  · have h := if_t c3 h
    refine lv_aload_n hx hb dX10_isAhead_31 rfl (lv_at hl 2 rfl) ?_
    refine r_gr S hE hw 19 89 iw10_X10_isAhead rfl rfl (by decide) rfl (hts _ mf66_X10_isAhead) dX10_isAhead_32 ?_
    refine lv_iload_n hx hb dX10_isAhead_35 rfl (lv_at hl 3 rfl) ?_
    obtain ⟨v4, gv4, h⟩ := oB_out h
    refine r_al S hE hw rfl rfl gv4 dX10_isAhead_36 ?_
    refine lv_aload_n hx hb dX10_isAhead_37 rfl (lv_at hl 2 rfl) ?_
    refine r_gr S hE hw 19 89 iw10_X10_isAhead rfl rfl (by decide) rfl (hts _ mf66_X10_isAhead) dX10_isAhead_38 ?_
    refine lv_iload_n hx hb dX10_isAhead_41 rfl (lv_at hl 4 rfl) ?_
    obtain ⟨v5, gv5, h⟩ := oB_out h
    refine r_al S hE hw rfl rfl gv5 dX10_isAhead_42 ?_
    refine lv_icmp_eq (tgt := 69) hx hb dX10_isAhead_43 (by decide) (fun c6 => ?_) (fun c6 => ?_)
    · have h := if_t c6 h
      refine lv_iload_n hx hb dX10_isAhead_69 rfl (lv_at hl 3 rfl) ?_
      refine lv_iload_n hx hb dX10_isAhead_70 rfl (lv_at hl 4 rfl) ?_
      refine lv_icmp_ge (tgt := 78) hx hb dX10_isAhead_71 (by decide) (fun c7 => ?_) (fun c7 => ?_)
      · have h := if_t c7 h
        refine lv_iconst (v := 0) hx hb dX10_isAhead_78 (by decide) ?_
        obtain rfl := Option.some.inj h
        exact r_zret S hr hlocks hw (Or.inl rfl) dX10_isAhead_79
      · have h := if_f c7 h
        refine lv_iconst (v := 1) hx hb dX10_isAhead_74 (by decide) ?_
        refine lv_goto (tgt := 79) hx hb dX10_isAhead_75 (by decide) ?_
        obtain rfl := Option.some.inj h
        exact r_zret S hr hlocks hw (Or.inr rfl) dX10_isAhead_79
    · have h := if_f c6 h
      refine lv_aload_n hx hb dX10_isAhead_46 rfl (lv_at hl 2 rfl) ?_
      refine r_gr S hE hw 19 89 iw10_X10_isAhead rfl rfl (by decide) rfl (hts _ mf66_X10_isAhead) dX10_isAhead_47 ?_
      refine lv_iload_n hx hb dX10_isAhead_50 rfl (lv_at hl 3 rfl) ?_
      obtain ⟨v8, gv8, h⟩ := oB_out h
      refine r_al S hE hw rfl rfl gv8 dX10_isAhead_51 ?_
      refine lv_aload_n hx hb dX10_isAhead_52 rfl (lv_at hl 2 rfl) ?_
      refine r_gr S hE hw 19 89 iw10_X10_isAhead rfl rfl (by decide) rfl (hts _ mf66_X10_isAhead) dX10_isAhead_53 ?_
      refine lv_iload_n hx hb dX10_isAhead_56 rfl (lv_at hl 4 rfl) ?_
      obtain ⟨v9, gv9, h⟩ := oB_out h
      refine r_al S hE hw rfl rfl gv9 dX10_isAhead_57 ?_
      refine lv_icmp_ge (tgt := 65) hx hb dX10_isAhead_58 (by decide) (fun c10 => ?_) (fun c10 => ?_)
      · have h := if_t c10 h
        refine lv_iconst (v := 0) hx hb dX10_isAhead_65 (by decide) ?_
        refine lv_goto (tgt := 79) hx hb dX10_isAhead_66 (by decide) ?_
        obtain rfl := Option.some.inj h
        exact r_zret S hr hlocks hw (Or.inl rfl) dX10_isAhead_79
      · have h := if_f c10 h
        refine lv_iconst (v := 1) hx hb dX10_isAhead_61 (by decide) ?_
        refine lv_goto (tgt := 79) hx hb dX10_isAhead_62 (by decide) ?_
        obtain rfl := Option.some.inj h
        exact r_zret S hr hlocks hw (Or.inr rfl) dX10_isAhead_79
  · have h := if_f c3 h
    refine lv_iload_n hx hb dX10_isAhead_19 rfl (lv_at hl 1 rfl) ?_
    refine lv_iload hx hb dX10_isAhead_20 (lv_at hl 0 rfl) ?_
    refine lv_icmp_le (tgt := 29) hx hb dX10_isAhead_22 (by decide) (fun c11 => ?_) (fun c11 => ?_)
    · have h := if_t c11 h
      refine lv_iconst (v := 0) hx hb dX10_isAhead_29 (by decide) ?_
      obtain rfl := Option.some.inj h
      exact r_zret S hr hlocks hw (Or.inl rfl) dX10_isAhead_30
    · have h := if_f c11 h
      refine lv_iconst (v := 1) hx hb dX10_isAhead_25 (by decide) ?_
      refine lv_goto (tgt := 30) hx hb dX10_isAhead_26 (by decide) ?_
      obtain rfl := Option.some.inj h
      exact r_zret S hr hlocks hw (Or.inr rfl) dX10_isAhead_30


theorem mf112_X10_record : Cond.fieldLink RX10 112 "GasVoyagesModel" "flights" "I" ∈ wsX10_record := by decide +kernel
set_option maxRecDepth 20000 in
theorem iw10_X10_record : ∀ w ∈ u_ws RX10 TX10 43, w ∈ wsX10_record := by decide +kernel
theorem mf105_X10_record : Cond.fieldLink RX10 105 "GasVoyagesModel" "counts" "[Z" ∈ wsX10_record := by decide +kernel
theorem mf59_X10_record : Cond.fieldLink RX10 59 "GasVoyagesModel" "landed" "[Z" ∈ wsX10_record := by decide +kernel
def f_X10_record_115 (kn53 : St → Int32 → Int32 → Option (Int32 × St)) (σ : St) (x1 : Int32) (x2 : Int32) (x3 : Int32) : Option (Int32 × St) := Option.bind (aL σ 102 8 x2) fun v1 => if v1 = 0 then (kn53 σ x1 (x2 + 1)) else (if x3 = x1 then (some (x2, σ)) else (kn53 σ x1 (x2 + 1)))
set_option maxRecDepth 100000 in
set_option maxHeartbeats 4000000 in
theorem w_X10_record_115 {p : Program} {l : Launch} {e : Env} {s : State} {m : MethodId} {args : Array Value} {below : List Frame} {meth : Method} {c : Code} {G : Gp} {A : Nat → Prop} (S : CallFix p m c cX10_record 5 s args wsX10_record RX10) (hr : meth.sig.returnType = (some .int)) (hlocks : meth.locks = false) (hE : Ev G A s) {kn53 : St → Int32 → Int32 → Option (Int32 × St)} (hkn53 : ∀ (σ : St) (x1 : Int32) (x2 : Int32) (r : Int32) (σ' : St), kn53 σ x1 x2 = some (r, σ') → ∀ (H : Heap) (locs : List Loc) (ls : Array Slot), Ww G A σ s H locs → lv_has ls 5 [(0, .ref (ad G 72)), (1, .int x1), (2, .int x2)] → W p l e (rmd 6) s m args below meth c H locs 0 0 (Qi below args s G A r σ') (F0 m 53 ls [])) (σ : St) (x1 : Int32) (x2 : Int32) (x3 : Int32) {r : Int32} {σ' : St} (h : f_X10_record_115  kn53 σ x1 x2 x3 = some (r, σ')) {H : Heap} {locs : List Loc} {ls : Array Slot} (hw : Ww G A σ s H locs) (hl : lv_has ls 5 [(0, .ref (ad G 72)), (1, .int x1), (2, .int x2), (3, .int x3)]) : W p l e (rmd 6) s m args below meth c H locs 0 0 (Qi below args s G A r σ') (F0 m 115 ls []) := by
  obtain ⟨hx, hb, hml, hown, hts⟩ := id S
  unfold f_X10_record_115 at h
  refine lv_aload_n hx hb dX10_record_115 rfl (lv_at hl 0 rfl) ?_
  refine r_gr S hE hw 42 102 iw10_X10_record rfl rfl (by decide) rfl (hts _ mf105_X10_record) dX10_record_116 ?_
  refine lv_iload_n hx hb dX10_record_119 rfl (lv_at hl 2 rfl) ?_
  obtain ⟨v1, gv1, h⟩ := oB_out h
  refine r_zl S hE hw rfl rfl gv1 dX10_record_120 ?_
  refine lv_if_eq (tgt := 131) hx hb dX10_record_121 (by decide) (fun c2 => ?_) (fun c2 => ?_)
  · have h := if_t c2 h
    refine lv_iinc (v := x2 + 1) (lv' := [(2, .int (x2 + 1)), (0, .ref (ad G 72)), (1, .int x1), (3, .int x3)]) hx hb dX10_record_131 hl (k := 2) rfl rfl (by decide) rfl (fun ls hl => ?_)
    refine lv_goto (tgt := 53) hx hb dX10_record_134 (by decide) ?_
    exact hkn53 σ x1 (x2 + 1) _ _ h _ _ _ hw (lv_sub hl [1, 2, 0] rfl)
  · have h := if_f c2 h
    refine lv_iload_n hx hb dX10_record_124 rfl (lv_at hl 3 rfl) ?_
    refine lv_iload_n hx hb dX10_record_125 rfl (lv_at hl 1 rfl) ?_
    refine lv_icmp_ne (tgt := 131) hx hb dX10_record_126 (by decide) (fun c3 => ?_) (fun c3 => ?_)
    · have h := if_f c3 h
      refine lv_iinc (v := x2 + 1) (lv' := [(2, .int (x2 + 1)), (0, .ref (ad G 72)), (1, .int x1), (3, .int x3)]) hx hb dX10_record_131 hl (k := 2) rfl rfl (by decide) rfl (fun ls hl => ?_)
      refine lv_goto (tgt := 53) hx hb dX10_record_134 (by decide) ?_
      exact hkn53 σ x1 (x2 + 1) _ _ h _ _ _ hw (lv_sub hl [1, 2, 0] rfl)
    · have h := if_t c3 h
      refine lv_iload_n hx hb dX10_record_129 rfl (lv_at hl 2 rfl) ?_
      obtain ⟨rfl, rfl⟩ := rt2 h
      exact r_iret S hr hlocks hw dX10_record_130

def f_X10_record_66 (kn53 : St → Int32 → Int32 → Option (Int32 × St)) : Nat → St → Int32 → Int32 → Int32 → Int32 → Option (Int32 × St)
  | 0, _, _, _, _, _ => none
  | n + 1, σ, x1, x2, x3, x4 => if (σ.1 72 8) ≤ x4 then (f_X10_record_115 kn53 σ x1 x2 x3) else (Option.bind (aL σ 102 8 x4) fun v2 => if v2 = 0 then (f_X10_record_66 kn53 n σ x1 x2 (x3 + 0) (x4 + 1)) else (if x4 = x2 then (f_X10_record_66 kn53 n σ x1 x2 (x3 + 0) (x4 + 1)) else (Option.bind (f_X10_isAhead σ x4 x2) fun v5 => if v5 = 0 then (f_X10_record_66 kn53 n σ x1 x2 (x3 + 0) (x4 + 1)) else (f_X10_record_66 kn53 n σ x1 x2 (x3 + 1) (x4 + 1)))))
set_option maxRecDepth 100000 in
set_option maxHeartbeats 4000000 in
theorem w_X10_record_66 {p : Program} {l : Launch} {e : Env} {s : State} {m : MethodId} {args : Array Value} {below : List Frame} {meth : Method} {c : Code} {G : Gp} {A : Nat → Prop} (S : CallFix p m c cX10_record 5 s args wsX10_record RX10) (hr : meth.sig.returnType = (some .int)) (hlocks : meth.locks = false) (hE : Ev G A s) {kn53 : St → Int32 → Int32 → Option (Int32 × St)} (hkn53 : ∀ (σ : St) (x1 : Int32) (x2 : Int32) (r : Int32) (σ' : St), kn53 σ x1 x2 = some (r, σ') → ∀ (H : Heap) (locs : List Loc) (ls : Array Slot), Ww G A σ s H locs → lv_has ls 5 [(0, .ref (ad G 72)), (1, .int x1), (2, .int x2)] → W p l e (rmd 6) s m args below meth c H locs 0 0 (Qi below args s G A r σ') (F0 m 53 ls [])) (n : Nat) (σ : St) (x1 : Int32) (x2 : Int32) (x3 : Int32) (x4 : Int32) {r : Int32} {σ' : St} (h : f_X10_record_66  kn53 n σ x1 x2 x3 x4 = some (r, σ')) {H : Heap} {locs : List Loc} {ls : Array Slot} (hw : Ww G A σ s H locs) (hl : lv_has ls 5 [(0, .ref (ad G 72)), (1, .int x1), (2, .int x2), (3, .int x3), (4, .int x4)]) : W p l e (rmd 6) s m args below meth c H locs 0 0 (Qi below args s G A r σ') (F0 m 66 ls []) := by
  obtain ⟨hx, hb, hml, hown, hts⟩ := id S
  induction n generalizing σ x1 x2 x3 x4 r σ' H locs ls with
  | zero => cases h
  | succ n ih =>
    unfold f_X10_record_66 at h
    refine lv_iload hx hb dX10_record_66 (lv_at hl 4 rfl) ?_
    refine lv_aload_n hx hb dX10_record_68 rfl (lv_at hl 0 rfl) ?_
    refine r_gi S hE hw 8 iw10_X10_record rfl rfl (by decide) (hts _ mf112_X10_record) dX10_record_69 ?_
    refine lv_icmp_ge (tgt := 115) hx hb dX10_record_72 (by decide) (fun c1 => ?_) (fun c1 => ?_)
    · have h := if_t c1 h
      exact w_X10_record_115   S hr hlocks hE hkn53  σ x1 x2 x3 h hw (lv_sub hl [0, 1, 2, 3] rfl)
    · have h := if_f c1 h
      refine lv_iload_n hx hb dX10_record_75 rfl (lv_at hl 3 rfl) ?_
      refine lv_aload_n hx hb dX10_record_76 rfl (lv_at hl 0 rfl) ?_
      refine r_gr S hE hw 42 102 iw10_X10_record rfl rfl (by decide) rfl (hts _ mf105_X10_record) dX10_record_77 ?_
      refine lv_iload hx hb dX10_record_80 (lv_at hl 4 rfl) ?_
      obtain ⟨v2, gv2, h⟩ := oB_out h
      refine r_zl S hE hw rfl rfl gv2 dX10_record_82 ?_
      refine lv_if_eq (tgt := 106) hx hb dX10_record_83 (by decide) (fun c3 => ?_) (fun c3 => ?_)
      · have h := if_t c3 h
        refine lv_iconst (v := 0) hx hb dX10_record_106 (by decide) ?_
        refine lv_iadd hx hb dX10_record_107 ?_
        refine lv_istore_n (lv' := [(3, .int (x3 + 0)), (0, .ref (ad G 72)), (1, .int x1), (2, .int x2), (4, .int x4)]) hx hb dX10_record_108 rfl hl (by decide) rfl (fun ls hl => ?_)
        refine lv_iinc (v := x4 + 1) (lv' := [(4, .int (x4 + 1)), (3, .int (x3 + 0)), (0, .ref (ad G 72)), (1, .int x1), (2, .int x2)]) hx hb dX10_record_109 hl (k := 4) rfl rfl (by decide) rfl (fun ls hl => ?_)
        refine lv_goto (tgt := 66) hx hb dX10_record_112 (by decide) ?_
        exact ih σ x1 x2 (x3 + 0) (x4 + 1) h hw (lv_sub hl [2, 3, 4, 1, 0] rfl)
      · have h := if_f c3 h
        refine lv_iload hx hb dX10_record_86 (lv_at hl 4 rfl) ?_
        refine lv_iload_n hx hb dX10_record_88 rfl (lv_at hl 2 rfl) ?_
        refine lv_icmp_eq (tgt := 106) hx hb dX10_record_89 (by decide) (fun c4 => ?_) (fun c4 => ?_)
        · have h := if_t c4 h
          refine lv_iconst (v := 0) hx hb dX10_record_106 (by decide) ?_
          refine lv_iadd hx hb dX10_record_107 ?_
          refine lv_istore_n (lv' := [(3, .int (x3 + 0)), (0, .ref (ad G 72)), (1, .int x1), (2, .int x2), (4, .int x4)]) hx hb dX10_record_108 rfl hl (by decide) rfl (fun ls hl => ?_)
          refine lv_iinc (v := x4 + 1) (lv' := [(4, .int (x4 + 1)), (3, .int (x3 + 0)), (0, .ref (ad G 72)), (1, .int x1), (2, .int x2)]) hx hb dX10_record_109 hl (k := 4) rfl rfl (by decide) rfl (fun ls hl => ?_)
          refine lv_goto (tgt := 66) hx hb dX10_record_112 (by decide) ?_
          exact ih σ x1 x2 (x3 + 0) (x4 + 1) h hw (lv_sub hl [2, 3, 4, 1, 0] rfl)
        · have h := if_f c4 h
          refine lv_aload_n hx hb dX10_record_92 rfl (lv_at hl 0 rfl) ?_
          refine lv_iload hx hb dX10_record_93 (lv_at hl 4 rfl) ?_
          refine lv_iload_n hx hb dX10_record_95 rfl (lv_at hl 2 rfl) ?_
          obtain ⟨v5, gv5, h⟩ := oB_out h
          refine r_cz (r_runV (k := 72) (ci := 10) (As := [.int x4, .int x2]) (rest := [.int x3]) S hE hw (c_X10_isAhead  l G A σ x4 x2 gv5) (cwV 2 hts gX10_record_X10_isAhead rfl rfl rfl (by decide +kernel) ⟨Nat.le_of_ble_eq_true rfl, Nat.le_of_ble_eq_true rfl⟩) rfl rfl (by decide) rfl hl.1 rfl (Nat.le_of_ble_eq_true rfl) ⟨Nat.zero_le _, Nat.zero_le _⟩ dX10_record_96) hw (fun H locs hw hb6 => ?_)
          refine lv_if_eq (tgt := 106) hx hb dX10_record_99 (by decide) (fun c7 => ?_) (fun c7 => ?_)
          · have h := if_t c7 h
            refine lv_iconst (v := 0) hx hb dX10_record_106 (by decide) ?_
            refine lv_iadd hx hb dX10_record_107 ?_
            refine lv_istore_n (lv' := [(3, .int (x3 + 0)), (0, .ref (ad G 72)), (1, .int x1), (2, .int x2), (4, .int x4)]) hx hb dX10_record_108 rfl hl (by decide) rfl (fun ls hl => ?_)
            refine lv_iinc (v := x4 + 1) (lv' := [(4, .int (x4 + 1)), (3, .int (x3 + 0)), (0, .ref (ad G 72)), (1, .int x1), (2, .int x2)]) hx hb dX10_record_109 hl (k := 4) rfl rfl (by decide) rfl (fun ls hl => ?_)
            refine lv_goto (tgt := 66) hx hb dX10_record_112 (by decide) ?_
            exact ih σ x1 x2 (x3 + 0) (x4 + 1) h hw (lv_sub hl [2, 3, 4, 1, 0] rfl)
          · have h := if_f c7 h
            refine lv_iconst (v := 1) hx hb dX10_record_102 (by decide) ?_
            refine lv_goto (tgt := 107) hx hb dX10_record_103 (by decide) ?_
            refine lv_iadd hx hb dX10_record_107 ?_
            refine lv_istore_n (lv' := [(3, .int (x3 + 1)), (0, .ref (ad G 72)), (1, .int x1), (2, .int x2), (4, .int x4)]) hx hb dX10_record_108 rfl hl (by decide) rfl (fun ls hl => ?_)
            refine lv_iinc (v := x4 + 1) (lv' := [(4, .int (x4 + 1)), (3, .int (x3 + 1)), (0, .ref (ad G 72)), (1, .int x1), (2, .int x2)]) hx hb dX10_record_109 hl (k := 4) rfl rfl (by decide) rfl (fun ls hl => ?_)
            refine lv_goto (tgt := 66) hx hb dX10_record_112 (by decide) ?_
            exact ih σ x1 x2 (x3 + 1) (x4 + 1) h hw (lv_sub hl [2, 3, 4, 1, 0] rfl)

def f_X10_record_53 : Nat → St → Int32 → Int32 → Option (Int32 × St)
  | 0, _, _, _ => none
  | n + 1, σ, x1, x2 => if (σ.1 72 8) ≤ x2 then (some ((-1), σ)) else (f_X10_record_66 (fun σ x1 x2 => f_X10_record_53 n σ x1 x2) 10000 σ x1 x2 0 0)
set_option maxRecDepth 100000 in
set_option maxHeartbeats 4000000 in
theorem w_X10_record_53 {p : Program} {l : Launch} {e : Env} {s : State} {m : MethodId} {args : Array Value} {below : List Frame} {meth : Method} {c : Code} {G : Gp} {A : Nat → Prop} (S : CallFix p m c cX10_record 5 s args wsX10_record RX10) (hr : meth.sig.returnType = (some .int)) (hlocks : meth.locks = false) (hE : Ev G A s) (n : Nat) (σ : St) (x1 : Int32) (x2 : Int32) {r : Int32} {σ' : St} (h : f_X10_record_53   n σ x1 x2 = some (r, σ')) {H : Heap} {locs : List Loc} {ls : Array Slot} (hw : Ww G A σ s H locs) (hl : lv_has ls 5 [(0, .ref (ad G 72)), (1, .int x1), (2, .int x2)]) : W p l e (rmd 6) s m args below meth c H locs 0 0 (Qi below args s G A r σ') (F0 m 53 ls []) := by
  obtain ⟨hx, hb, hml, hown, hts⟩ := id S
  induction n generalizing σ x1 x2 r σ' H locs ls with
  | zero => cases h
  | succ n ih =>
    unfold f_X10_record_53 at h
    refine lv_iload_n hx hb dX10_record_53 rfl (lv_at hl 2 rfl) ?_
    refine lv_aload_n hx hb dX10_record_54 rfl (lv_at hl 0 rfl) ?_
    refine r_gi S hE hw 8 iw10_X10_record rfl rfl (by decide) (hts _ mf112_X10_record) dX10_record_55 ?_
    refine lv_icmp_ge (tgt := 137) hx hb dX10_record_58 (by decide) (fun c1 => ?_) (fun c1 => ?_)
    · have h := if_t c1 h
      refine lv_iconst (v := (-1)) hx hb dX10_record_137 (by decide) ?_
      obtain ⟨rfl, rfl⟩ := rt2 h
      exact r_iret S hr hlocks hw dX10_record_138
    · have h := if_f c1 h
      refine lv_iconst (v := 0) hx hb dX10_record_61 (by decide) ?_
      refine lv_istore_n (lv' := [(3, .int 0), (0, .ref (ad G 72)), (1, .int x1), (2, .int x2)]) hx hb dX10_record_62 rfl hl (by decide) rfl (fun ls hl => ?_)
      refine lv_iconst (v := 0) hx hb dX10_record_63 (by decide) ?_
      refine lv_istore (lv' := [(4, .int 0), (3, .int 0), (0, .ref (ad G 72)), (1, .int x1), (2, .int x2)]) hx hb dX10_record_64 hl (by decide) rfl (fun ls hl => ?_)
      exact w_X10_record_66   S hr hlocks hE (fun σ x1 x2  _ _ h _ _ _ hw hl => ih σ x1 x2  h hw hl) 10000 σ x1 x2 0 0 h hw (lv_sub hl [2, 3, 4, 1, 0] rfl)

def f_X10_record_9 : Nat → St → Int32 → Int32 → Option (Int32 × St)
  | 0, _, _, _ => none
  | n + 1, σ, x1, x2 => if (σ.1 72 8) ≤ x2 then (f_X10_record_53 10000 σ x1 0) else (Option.bind (aL σ 87 8 x2) fun v2 => if v2 = 0 then (Option.bind (aS σ 102 8 x2 (vp_nar .boolean 0)) fun s4 => f_X10_record_9 n s4 x1 (x2 + 1)) else (oB2 (f_X10_judged σ x2) fun v5 s6 => if v5 = 0 then (Option.bind (aS s6 102 8 x2 (vp_nar .boolean 1)) fun s9 => f_X10_record_9 n s9 x1 (x2 + 1)) else (Option.bind (aS s6 102 8 x2 (vp_nar .boolean 0)) fun s8 => f_X10_record_9 n s8 x1 (x2 + 1))))
set_option maxRecDepth 100000 in
set_option maxHeartbeats 4000000 in
theorem w_X10_record_9 {p : Program} {l : Launch} {e : Env} {s : State} {m : MethodId} {args : Array Value} {below : List Frame} {meth : Method} {c : Code} {G : Gp} {A : Nat → Prop} (S : CallFix p m c cX10_record 5 s args wsX10_record RX10) (hr : meth.sig.returnType = (some .int)) (hlocks : meth.locks = false) (hE : Ev G A s) (n : Nat) (σ : St) (x1 : Int32) (x2 : Int32) {r : Int32} {σ' : St} (h : f_X10_record_9   n σ x1 x2 = some (r, σ')) {H : Heap} {locs : List Loc} {ls : Array Slot} (hw : Ww G A σ s H locs) (hl : lv_has ls 5 [(0, .ref (ad G 72)), (1, .int x1), (2, .int x2)]) : W p l e (rmd 6) s m args below meth c H locs 0 0 (Qi below args s G A r σ') (F0 m 9 ls []) := by
  obtain ⟨hx, hb, hml, hown, hts⟩ := id S
  induction n generalizing σ x1 x2 r σ' H locs ls with
  | zero => cases h
  | succ n ih =>
    unfold f_X10_record_9 at h
    refine lv_iload_n hx hb dX10_record_9 rfl (lv_at hl 2 rfl) ?_
    refine lv_aload_n hx hb dX10_record_10 rfl (lv_at hl 0 rfl) ?_
    refine r_gi S hE hw 8 iw10_X10_record rfl rfl (by decide) (hts _ mf112_X10_record) dX10_record_11 ?_
    refine lv_icmp_ge (tgt := 51) hx hb dX10_record_14 (by decide) (fun c1 => ?_) (fun c1 => ?_)
    · have h := if_t c1 h
      refine lv_iconst (v := 0) hx hb dX10_record_51 (by decide) ?_
      refine lv_istore_n (lv' := [(2, .int 0), (0, .ref (ad G 72)), (1, .int x1)]) hx hb dX10_record_52 rfl hl (by decide) rfl (fun ls hl => ?_)
      exact w_X10_record_53   S hr hlocks hE  10000 σ x1 0 h hw (lv_sub hl [1, 2, 0] rfl)
    · have h := if_f c1 h
      refine lv_aload_n hx hb dX10_record_17 rfl (lv_at hl 0 rfl) ?_
      refine r_gr S hE hw 42 102 iw10_X10_record rfl rfl (by decide) rfl (hts _ mf105_X10_record) dX10_record_18 ?_
      refine lv_iload_n hx hb dX10_record_21 rfl (lv_at hl 2 rfl) ?_
      refine lv_aload_n hx hb dX10_record_22 rfl (lv_at hl 0 rfl) ?_
      refine r_gr S hE hw 17 87 iw10_X10_record rfl rfl (by decide) rfl (hts _ mf59_X10_record) dX10_record_23 ?_
      refine lv_iload_n hx hb dX10_record_26 rfl (lv_at hl 2 rfl) ?_
      obtain ⟨v2, gv2, h⟩ := oB_out h
      refine r_zl S hE hw rfl rfl gv2 dX10_record_27 ?_
      refine lv_if_eq (tgt := 43) hx hb dX10_record_28 (by decide) (fun c3 => ?_) (fun c3 => ?_)
      · have h := if_t c3 h
        refine lv_iconst (v := 0) hx hb dX10_record_43 (by decide) ?_
        obtain ⟨s4, gs4, h⟩ := oB_out h
        refine r_zs S hE hw rfl rfl gs4 dX10_record_44 (fun H locs hw => ?_)
        refine lv_iinc (v := x2 + 1) (lv' := [(2, .int (x2 + 1)), (0, .ref (ad G 72)), (1, .int x1)]) hx hb dX10_record_45 hl (k := 2) rfl rfl (by decide) rfl (fun ls hl => ?_)
        refine lv_goto (tgt := 9) hx hb dX10_record_48 (by decide) ?_
        exact ih s4 x1 (x2 + 1) h hw (lv_sub hl [1, 2, 0] rfl)
      · have h := if_f c3 h
        refine lv_aload_n hx hb dX10_record_31 rfl (lv_at hl 0 rfl) ?_
        refine lv_iload_n hx hb dX10_record_32 rfl (lv_at hl 2 rfl) ?_
        obtain ⟨v5, s6, gv5, h⟩ := oB2_out h
        refine r_ci (r_runV (k := 72) (ci := 10) (As := [.int x2]) (rest := [.int x2, .ref (ad G 102)]) S hE hw (c_X10_judged  l G A σ x2 gv5) (cwV 1 hts gX10_record_X10_judged rfl rfl rfl (by decide +kernel) ⟨Nat.le_of_ble_eq_true rfl, Nat.le_of_ble_eq_true rfl⟩) rfl rfl (by decide) rfl hl.1 rfl (Nat.le_of_ble_eq_true rfl) ⟨Nat.zero_le _, Nat.zero_le _⟩ dX10_record_33) hw (fun H locs hw => ?_)
        refine lv_if_ne (tgt := 43) hx hb dX10_record_36 (by decide) (fun c7 => ?_) (fun c7 => ?_)
        · have h := if_f c7 h
          refine lv_iconst (v := 0) hx hb dX10_record_43 (by decide) ?_
          obtain ⟨s8, gs8, h⟩ := oB_out h
          refine r_zs S hE hw rfl rfl gs8 dX10_record_44 (fun H locs hw => ?_)
          refine lv_iinc (v := x2 + 1) (lv' := [(2, .int (x2 + 1)), (0, .ref (ad G 72)), (1, .int x1)]) hx hb dX10_record_45 hl (k := 2) rfl rfl (by decide) rfl (fun ls hl => ?_)
          refine lv_goto (tgt := 9) hx hb dX10_record_48 (by decide) ?_
          exact ih s8 x1 (x2 + 1) h hw (lv_sub hl [1, 2, 0] rfl)
        · have h := if_t c7 h
          refine lv_iconst (v := 1) hx hb dX10_record_39 (by decide) ?_
          refine lv_goto (tgt := 44) hx hb dX10_record_40 (by decide) ?_
          obtain ⟨s9, gs9, h⟩ := oB_out h
          refine r_zs S hE hw rfl rfl gs9 dX10_record_44 (fun H locs hw => ?_)
          refine lv_iinc (v := x2 + 1) (lv' := [(2, .int (x2 + 1)), (0, .ref (ad G 72)), (1, .int x1)]) hx hb dX10_record_45 hl (k := 2) rfl rfl (by decide) rfl (fun ls hl => ?_)
          refine lv_goto (tgt := 9) hx hb dX10_record_48 (by decide) ?_
          exact ih s9 x1 (x2 + 1) h hw (lv_sub hl [1, 2, 0] rfl)

def f_X10_record (σ : St) (p1 : Int32) : Option (Int32 × St) := if 0 ≤ p1 then (f_X10_record_9 10000 σ p1 0) else (some ((-2), σ))
set_option maxRecDepth 100000 in
set_option maxHeartbeats 4000000 in
theorem c_X10_record (l : Launch) (G : Gp) (A : Nat → Prop) (σ : St) (p1 : Int32) {r : Int32} {σ' : St} (h : f_X10_record σ p1 = some (r, σ')) : Ki l yX10_record wsX10_record 6 G A [.ref (ad G 72), .int p1] σ r σ' := by
  unfold f_X10_record at h
  refine r_start (ws := wsX10_record) (d := 6) (by decide) rfl [.ref (ad G 72), .int p1] (Nat.le_of_ble_eq_true rfl) ?_
  intro p e s m below meth c S hr hlocks hE hw ls hl
  have hl : lv_has ls 5 [(0, .ref (ad G 72)), (1, .int p1)] := hl
  obtain ⟨hx, hb, hml, hown, hts⟩ := id S
  refine lv_iload_n hx hb dX10_record_0 rfl (lv_at hl 1 rfl) ?_
  refine lv_if_ge (tgt := 7) hx hb dX10_record_1 (by decide) (fun c1 => ?_) (fun c1 => ?_)
  · have h := if_t c1 h
    refine lv_iconst (v := 0) hx hb dX10_record_7 (by decide) ?_
    refine lv_istore_n (lv' := [(2, .int 0), (0, .ref (ad G 72)), (1, .int p1)]) hx hb dX10_record_8 rfl hl (by decide) rfl (fun ls hl => ?_)
    exact w_X10_record_9   S hr hlocks hE  10000 σ p1 0 h hw (lv_sub hl [1, 2, 0] rfl)
  · have h := if_f c1 h
    refine lv_bipush (v := (-2)) hx hb dX10_record_4 (by decide) ?_
    obtain ⟨rfl, rfl⟩ := rt2 h
    exact r_iret S hr hlocks hw dX10_record_6


theorem mf7_X10_count : Cond.fieldLink RX10 7 "GasVoyagesModel" "wide" "I" ∈ wsX10_count := by decide +kernel
set_option maxRecDepth 20000 in
theorem iw10_X10_count : ∀ w ∈ u_ws RX10 TX10 43, w ∈ wsX10_count := by decide +kernel
theorem mf13_X10_count : Cond.fieldLink RX10 13 "GasVoyagesModel" "high" "I" ∈ wsX10_count := by decide +kernel
theorem mf112_X10_count : Cond.fieldLink RX10 112 "GasVoyagesModel" "flights" "I" ∈ wsX10_count := by decide +kernel
theorem mf115_X10_count : Cond.fieldLink RX10 115 "GasVoyagesModel" "chasers" "I" ∈ wsX10_count := by decide +kernel
theorem mf66_X10_count : Cond.fieldLink RX10 66 "GasVoyagesModel" "entries" "[I" ∈ wsX10_count := by decide +kernel
theorem mf75_X10_count : Cond.fieldLink RX10 75 "GasVoyagesModel" "lost" "[Z" ∈ wsX10_count := by decide +kernel
theorem mf16_X10_count : Cond.fieldLink RX10 16 "GasVoyagesModel" "kinds" "[I" ∈ wsX10_count := by decide +kernel
theorem mf59_X10_count : Cond.fieldLink RX10 59 "GasVoyagesModel" "landed" "[Z" ∈ wsX10_count := by decide +kernel
def f_X10_count_61 : Nat → St → Int32 → Int32 → Option Int32
  | 0, _, _, _ => none
  | n + 1, σ, x2, x3 => if (σ.1 72 8) ≤ x3 then (some x2) else (Option.bind (aL σ 87 8 x3) fun v2 => if v2 = 0 then (f_X10_count_61 n σ (x2 + 1) (x3 + 1)) else (f_X10_count_61 n σ (x2 + 0) (x3 + 1)))
set_option maxRecDepth 100000 in
set_option maxHeartbeats 4000000 in
theorem w_X10_count_61 {p : Program} {l : Launch} {e : Env} {s : State} {m : MethodId} {args : Array Value} {below : List Frame} {meth : Method} {c : Code} {G : Gp} {A : Nat → Prop} (S : CallFix p m c cX10_count 5 s args wsX10_count RX10) (hr : meth.sig.returnType = (some .int)) (hlocks : meth.locks = false) (hE : Ev G A s) (n : Nat) (σ : St) (x2 : Int32) (x3 : Int32) {r : Int32} (h : f_X10_count_61   n σ x2 x3 = some r) {H : Heap} {locs : List Loc} {ls : Array Slot} (hw : Ww G A σ s H locs) (hl : lv_has ls 5 [(0, .ref (ad G 72)), (2, .int x2), (3, .int x3)]) : W p l e (rmd 0) s m args below meth c H locs 0 0 (Qi below args s G A r σ) (F0 m 61 ls []) := by
  obtain ⟨hx, hb, hml, hown, hts⟩ := id S
  induction n generalizing σ x2 x3 r  H locs ls with
  | zero => cases h
  | succ n ih =>
    unfold f_X10_count_61 at h
    refine lv_iload_n hx hb dX10_count_61 rfl (lv_at hl 2 rfl) ?_
    refine lv_aload_n hx hb dX10_count_62 rfl (lv_at hl 0 rfl) ?_
    refine r_gi S hE hw 8 iw10_X10_count rfl rfl (by decide) (hts _ mf112_X10_count) dX10_count_63 ?_
    refine lv_icmp_ge (tgt := 92) hx hb dX10_count_66 (by decide) (fun c1 => ?_) (fun c1 => ?_)
    · have h := if_t c1 h
      refine lv_iload_n hx hb dX10_count_92 rfl (lv_at hl 1 rfl) ?_
      obtain rfl := Option.some.inj h
      exact r_iret S hr hlocks hw dX10_count_93
    · have h := if_f c1 h
      refine lv_iload_n hx hb dX10_count_69 rfl (lv_at hl 1 rfl) ?_
      refine lv_aload_n hx hb dX10_count_70 rfl (lv_at hl 0 rfl) ?_
      refine r_gr S hE hw 17 87 iw10_X10_count rfl rfl (by decide) rfl (hts _ mf59_X10_count) dX10_count_71 ?_
      refine lv_iload_n hx hb dX10_count_74 rfl (lv_at hl 2 rfl) ?_
      obtain ⟨v2, gv2, h⟩ := oB_out h
      refine r_zl S hE hw rfl rfl gv2 dX10_count_75 ?_
      refine lv_if_eq (tgt := 83) hx hb dX10_count_76 (by decide) (fun c3 => ?_) (fun c3 => ?_)
      · have h := if_t c3 h
        refine lv_iconst (v := 1) hx hb dX10_count_83 (by decide) ?_
        refine lv_iadd hx hb dX10_count_84 ?_
        refine lv_istore_n (lv' := [(2, .int (x2 + 1)), (0, .ref (ad G 72)), (3, .int x3)]) hx hb dX10_count_85 rfl hl (by decide) rfl (fun ls hl => ?_)
        refine lv_iinc (v := x3 + 1) (lv' := [(3, .int (x3 + 1)), (2, .int (x2 + 1)), (0, .ref (ad G 72))]) hx hb dX10_count_86 hl (k := 2) rfl rfl (by decide) rfl (fun ls hl => ?_)
        refine lv_goto (tgt := 61) hx hb dX10_count_89 (by decide) ?_
        exact ih σ (x2 + 1) (x3 + 1) h hw (lv_sub hl [2, 1, 0] rfl)
      · have h := if_f c3 h
        refine lv_iconst (v := 0) hx hb dX10_count_79 (by decide) ?_
        refine lv_goto (tgt := 84) hx hb dX10_count_80 (by decide) ?_
        refine lv_iadd hx hb dX10_count_84 ?_
        refine lv_istore_n (lv' := [(2, .int (x2 + 0)), (0, .ref (ad G 72)), (3, .int x3)]) hx hb dX10_count_85 rfl hl (by decide) rfl (fun ls hl => ?_)
        refine lv_iinc (v := x3 + 1) (lv' := [(3, .int (x3 + 1)), (2, .int (x2 + 0)), (0, .ref (ad G 72))]) hx hb dX10_count_86 hl (k := 2) rfl rfl (by decide) rfl (fun ls hl => ?_)
        refine lv_goto (tgt := 61) hx hb dX10_count_89 (by decide) ?_
        exact ih σ (x2 + 0) (x3 + 1) h hw (lv_sub hl [2, 1, 0] rfl)

def f_X10_count_101 : Nat → St → Int32 → Int32 → Option Int32
  | 0, _, _, _ => none
  | n + 1, σ, x2, x3 => if 576 ≤ x3 then (some x2) else (Option.bind (aL σ 73 576 x3) fun v2 => if v2 = 2 then (f_X10_count_101 n σ (x2 + 1) (x3 + 1)) else (f_X10_count_101 n σ (x2 + 0) (x3 + 1)))
set_option maxRecDepth 100000 in
set_option maxHeartbeats 4000000 in
theorem w_X10_count_101 {p : Program} {l : Launch} {e : Env} {s : State} {m : MethodId} {args : Array Value} {below : List Frame} {meth : Method} {c : Code} {G : Gp} {A : Nat → Prop} (S : CallFix p m c cX10_count 5 s args wsX10_count RX10) (hr : meth.sig.returnType = (some .int)) (hlocks : meth.locks = false) (hE : Ev G A s) (n : Nat) (σ : St) (x2 : Int32) (x3 : Int32) {r : Int32} (h : f_X10_count_101   n σ x2 x3 = some r) {H : Heap} {locs : List Loc} {ls : Array Slot} (hw : Ww G A σ s H locs) (hl : lv_has ls 5 [(0, .ref (ad G 72)), (2, .int x2), (3, .int x3)]) : W p l e (rmd 0) s m args below meth c H locs 0 0 (Qi below args s G A r σ) (F0 m 101 ls []) := by
  obtain ⟨hx, hb, hml, hown, hts⟩ := id S
  induction n generalizing σ x2 x3 r  H locs ls with
  | zero => cases h
  | succ n ih =>
    unfold f_X10_count_101 at h
    refine lv_iload_n hx hb dX10_count_101 rfl (lv_at hl 2 rfl) ?_
    refine lv_sipush (v := 576) hx hb dX10_count_102 (by decide) ?_
    refine lv_icmp_ge (tgt := 132) hx hb dX10_count_105 (by decide) (fun c1 => ?_) (fun c1 => ?_)
    · have h := if_t c1 h
      refine lv_iload_n hx hb dX10_count_132 rfl (lv_at hl 1 rfl) ?_
      obtain rfl := Option.some.inj h
      exact r_iret S hr hlocks hw dX10_count_133
    · have h := if_f c1 h
      refine lv_iload_n hx hb dX10_count_108 rfl (lv_at hl 1 rfl) ?_
      refine lv_aload_n hx hb dX10_count_109 rfl (lv_at hl 0 rfl) ?_
      refine r_gr S hE hw 2 73 iw10_X10_count rfl rfl (by decide) rfl (hts _ mf16_X10_count) dX10_count_110 ?_
      refine lv_iload_n hx hb dX10_count_113 rfl (lv_at hl 2 rfl) ?_
      obtain ⟨v2, gv2, h⟩ := oB_out h
      refine r_al S hE hw rfl rfl gv2 dX10_count_114 ?_
      refine lv_iconst (v := 2) hx hb dX10_count_115 (by decide) ?_
      refine lv_icmp_ne (tgt := 123) hx hb dX10_count_116 (by decide) (fun c3 => ?_) (fun c3 => ?_)
      · have h := if_f c3 h
        refine lv_iconst (v := 0) hx hb dX10_count_123 (by decide) ?_
        refine lv_iadd hx hb dX10_count_124 ?_
        refine lv_istore_n (lv' := [(2, .int (x2 + 0)), (0, .ref (ad G 72)), (3, .int x3)]) hx hb dX10_count_125 rfl hl (by decide) rfl (fun ls hl => ?_)
        refine lv_iinc (v := x3 + 1) (lv' := [(3, .int (x3 + 1)), (2, .int (x2 + 0)), (0, .ref (ad G 72))]) hx hb dX10_count_126 hl (k := 2) rfl rfl (by decide) rfl (fun ls hl => ?_)
        refine lv_goto (tgt := 101) hx hb dX10_count_129 (by decide) ?_
        exact ih σ (x2 + 0) (x3 + 1) h hw (lv_sub hl [2, 1, 0] rfl)
      · have h := if_t c3 h
        refine lv_iconst (v := 1) hx hb dX10_count_119 (by decide) ?_
        refine lv_goto (tgt := 124) hx hb dX10_count_120 (by decide) ?_
        refine lv_iadd hx hb dX10_count_124 ?_
        refine lv_istore_n (lv' := [(2, .int (x2 + 1)), (0, .ref (ad G 72)), (3, .int x3)]) hx hb dX10_count_125 rfl hl (by decide) rfl (fun ls hl => ?_)
        refine lv_iinc (v := x3 + 1) (lv' := [(3, .int (x3 + 1)), (2, .int (x2 + 1)), (0, .ref (ad G 72))]) hx hb dX10_count_126 hl (k := 2) rfl rfl (by decide) rfl (fun ls hl => ?_)
        refine lv_goto (tgt := 101) hx hb dX10_count_129 (by decide) ?_
        exact ih σ (x2 + 1) (x3 + 1) h hw (lv_sub hl [2, 1, 0] rfl)

def f_X10_count_147 (kn136 : St → Int32 → Int32 → Option Int32) : Nat → St → Int32 → Int32 → Int32 → Option Int32
  | 0, _, _, _, _ => none
  | n + 1, σ, x2, x3, x4 => Option.bind (aL σ 89 8 x3) fun v1 => if v1 ≤ x4 then (kn136 σ x2 (x3 + 1)) else (Option.bind (aL σ 92 488 ((61 * x3) + x4)) fun v3 => if v3 = 0 then (f_X10_count_147 kn136 n σ (x2 + 0) x3 (x4 + 1)) else (f_X10_count_147 kn136 n σ (x2 + 1) x3 (x4 + 1)))
set_option maxRecDepth 100000 in
set_option maxHeartbeats 4000000 in
theorem w_X10_count_147 {p : Program} {l : Launch} {e : Env} {s : State} {m : MethodId} {args : Array Value} {below : List Frame} {meth : Method} {c : Code} {G : Gp} {A : Nat → Prop} (S : CallFix p m c cX10_count 5 s args wsX10_count RX10) (hr : meth.sig.returnType = (some .int)) (hlocks : meth.locks = false) (hE : Ev G A s) {kn136 : St → Int32 → Int32 → Option Int32} (hkn136 : ∀ (σ : St) (x2 : Int32) (x3 : Int32) (r : Int32) (_ : Unit), kn136 σ x2 x3 = some r → ∀ (H : Heap) (locs : List Loc) (ls : Array Slot), Ww G A σ s H locs → lv_has ls 5 [(0, .ref (ad G 72)), (2, .int x2), (3, .int x3)] → W p l e (rmd 0) s m args below meth c H locs 0 0 (Qi below args s G A r σ) (F0 m 136 ls [])) (n : Nat) (σ : St) (x2 : Int32) (x3 : Int32) (x4 : Int32) {r : Int32} (h : f_X10_count_147  kn136 n σ x2 x3 x4 = some r) {H : Heap} {locs : List Loc} {ls : Array Slot} (hw : Ww G A σ s H locs) (hl : lv_has ls 5 [(0, .ref (ad G 72)), (2, .int x2), (3, .int x3), (4, .int x4)]) : W p l e (rmd 0) s m args below meth c H locs 0 0 (Qi below args s G A r σ) (F0 m 147 ls []) := by
  obtain ⟨hx, hb, hml, hown, hts⟩ := id S
  induction n generalizing σ x2 x3 x4 r  H locs ls with
  | zero => cases h
  | succ n ih =>
    unfold f_X10_count_147 at h
    refine lv_iload hx hb dX10_count_147 (lv_at hl 3 rfl) ?_
    refine lv_aload_n hx hb dX10_count_149 rfl (lv_at hl 0 rfl) ?_
    refine r_gr S hE hw 19 89 iw10_X10_count rfl rfl (by decide) rfl (hts _ mf66_X10_count) dX10_count_150 ?_
    refine lv_iload_n hx hb dX10_count_153 rfl (lv_at hl 2 rfl) ?_
    obtain ⟨v1, gv1, h⟩ := oB_out h
    refine r_al S hE hw rfl rfl gv1 dX10_count_154 ?_
    refine lv_icmp_ge (tgt := 187) hx hb dX10_count_155 (by decide) (fun c2 => ?_) (fun c2 => ?_)
    · have h := if_t c2 h
      refine lv_iinc (v := x3 + 1) (lv' := [(3, .int (x3 + 1)), (0, .ref (ad G 72)), (2, .int x2), (4, .int x4)]) hx hb dX10_count_187 hl (k := 2) rfl rfl (by decide) rfl (fun ls hl => ?_)
      refine lv_goto (tgt := 136) hx hb dX10_count_190 (by decide) ?_
      exact hkn136 σ x2 (x3 + 1) _ () h _ _ _ hw (lv_sub hl [1, 2, 0] rfl)
    · have h := if_f c2 h
      refine lv_iload_n hx hb dX10_count_158 rfl (lv_at hl 1 rfl) ?_
      refine lv_aload_n hx hb dX10_count_159 rfl (lv_at hl 0 rfl) ?_
      refine r_gr S hE hw 22 92 iw10_X10_count rfl rfl (by decide) rfl (hts _ mf75_X10_count) dX10_count_160 ?_
      refine lv_bipush (v := 61) hx hb dX10_count_163 (by decide) ?_
      refine lv_iload_n hx hb dX10_count_165 rfl (lv_at hl 2 rfl) ?_
      refine lv_imul hx hb dX10_count_166 ?_
      refine lv_iload hx hb dX10_count_167 (lv_at hl 3 rfl) ?_
      refine lv_iadd hx hb dX10_count_169 ?_
      obtain ⟨v3, gv3, h⟩ := oB_out h
      refine r_zl S hE hw rfl rfl gv3 dX10_count_170 ?_
      refine lv_if_eq (tgt := 178) hx hb dX10_count_171 (by decide) (fun c4 => ?_) (fun c4 => ?_)
      · have h := if_t c4 h
        refine lv_iconst (v := 0) hx hb dX10_count_178 (by decide) ?_
        refine lv_iadd hx hb dX10_count_179 ?_
        refine lv_istore_n (lv' := [(2, .int (x2 + 0)), (0, .ref (ad G 72)), (3, .int x3), (4, .int x4)]) hx hb dX10_count_180 rfl hl (by decide) rfl (fun ls hl => ?_)
        refine lv_iinc (v := x4 + 1) (lv' := [(4, .int (x4 + 1)), (2, .int (x2 + 0)), (0, .ref (ad G 72)), (3, .int x3)]) hx hb dX10_count_181 hl (k := 3) rfl rfl (by decide) rfl (fun ls hl => ?_)
        refine lv_goto (tgt := 147) hx hb dX10_count_184 (by decide) ?_
        exact ih σ (x2 + 0) x3 (x4 + 1) h hw (lv_sub hl [2, 1, 3, 0] rfl)
      · have h := if_f c4 h
        refine lv_iconst (v := 1) hx hb dX10_count_174 (by decide) ?_
        refine lv_goto (tgt := 179) hx hb dX10_count_175 (by decide) ?_
        refine lv_iadd hx hb dX10_count_179 ?_
        refine lv_istore_n (lv' := [(2, .int (x2 + 1)), (0, .ref (ad G 72)), (3, .int x3), (4, .int x4)]) hx hb dX10_count_180 rfl hl (by decide) rfl (fun ls hl => ?_)
        refine lv_iinc (v := x4 + 1) (lv' := [(4, .int (x4 + 1)), (2, .int (x2 + 1)), (0, .ref (ad G 72)), (3, .int x3)]) hx hb dX10_count_181 hl (k := 3) rfl rfl (by decide) rfl (fun ls hl => ?_)
        refine lv_goto (tgt := 147) hx hb dX10_count_184 (by decide) ?_
        exact ih σ (x2 + 1) x3 (x4 + 1) h hw (lv_sub hl [2, 1, 3, 0] rfl)

def f_X10_count_136 : Nat → St → Int32 → Int32 → Option Int32
  | 0, _, _, _ => none
  | n + 1, σ, x2, x3 => if (σ.1 72 8) ≤ x3 then (some x2) else (f_X10_count_147 (fun σ x2 x3 => f_X10_count_136 n σ x2 x3) 10000 σ x2 x3 0)
set_option maxRecDepth 100000 in
set_option maxHeartbeats 4000000 in
theorem w_X10_count_136 {p : Program} {l : Launch} {e : Env} {s : State} {m : MethodId} {args : Array Value} {below : List Frame} {meth : Method} {c : Code} {G : Gp} {A : Nat → Prop} (S : CallFix p m c cX10_count 5 s args wsX10_count RX10) (hr : meth.sig.returnType = (some .int)) (hlocks : meth.locks = false) (hE : Ev G A s) (n : Nat) (σ : St) (x2 : Int32) (x3 : Int32) {r : Int32} (h : f_X10_count_136   n σ x2 x3 = some r) {H : Heap} {locs : List Loc} {ls : Array Slot} (hw : Ww G A σ s H locs) (hl : lv_has ls 5 [(0, .ref (ad G 72)), (2, .int x2), (3, .int x3)]) : W p l e (rmd 0) s m args below meth c H locs 0 0 (Qi below args s G A r σ) (F0 m 136 ls []) := by
  obtain ⟨hx, hb, hml, hown, hts⟩ := id S
  induction n generalizing σ x2 x3 r  H locs ls with
  | zero => cases h
  | succ n ih =>
    unfold f_X10_count_136 at h
    refine lv_iload_n hx hb dX10_count_136 rfl (lv_at hl 2 rfl) ?_
    refine lv_aload_n hx hb dX10_count_137 rfl (lv_at hl 0 rfl) ?_
    refine r_gi S hE hw 8 iw10_X10_count rfl rfl (by decide) (hts _ mf112_X10_count) dX10_count_138 ?_
    refine lv_icmp_ge (tgt := 193) hx hb dX10_count_141 (by decide) (fun c1 => ?_) (fun c1 => ?_)
    · have h := if_t c1 h
      refine lv_iload_n hx hb dX10_count_193 rfl (lv_at hl 1 rfl) ?_
      obtain rfl := Option.some.inj h
      exact r_iret S hr hlocks hw dX10_count_194
    · have h := if_f c1 h
      refine lv_iconst (v := 0) hx hb dX10_count_144 (by decide) ?_
      refine lv_istore (lv' := [(4, .int 0), (0, .ref (ad G 72)), (2, .int x2), (3, .int x3)]) hx hb dX10_count_145 hl (by decide) rfl (fun ls hl => ?_)
      exact w_X10_count_147   S hr hlocks hE (fun σ x2 x3  _ _ h _ _ _ hw hl => ih σ x2 x3  h hw hl) 10000 σ x2 x3 0 h hw (lv_sub hl [1, 2, 3, 0] rfl)

def f_X10_count (σ : St) (p1 : Int32) : Option Int32 := if p1 = 0 then (some (σ.1 72 0)) else (if p1 = 1 then (some (σ.1 72 1)) else (if p1 = 2 then (some (σ.1 72 8)) else (if p1 = 3 then (f_X10_count_61 10000 σ 0 0) else (if p1 = 4 then (some (σ.1 72 23)) else (if p1 = 5 then (f_X10_count_101 10000 σ 0 0) else (if p1 = 6 then (f_X10_count_136 10000 σ 0 0) else (some (-2))))))))
set_option maxRecDepth 100000 in
set_option maxHeartbeats 4000000 in
theorem c_X10_count (l : Launch) (G : Gp) (A : Nat → Prop) (σ : St) (p1 : Int32) {r : Int32} (h : f_X10_count σ p1 = some r) : Ki l yX10_count wsX10_count 0 G A [.ref (ad G 72), .int p1] σ r σ := by
  unfold f_X10_count at h
  refine r_start (ws := wsX10_count) (d := 0) (by decide) rfl [.ref (ad G 72), .int p1] (Nat.le_of_ble_eq_true rfl) ?_
  intro p e s m below meth c S hr hlocks hE hw ls hl
  have hl : lv_has ls 5 [(0, .ref (ad G 72)), (1, .int p1)] := hl
  obtain ⟨hx, hb, hml, hown, hts⟩ := id S
  refine lv_iconst (v := 0) hx hb dX10_count_0 (by decide) ?_
  refine lv_istore_n (lv' := [(2, .int 0), (0, .ref (ad G 72)), (1, .int p1)]) hx hb dX10_count_1 rfl hl (by decide) rfl (fun ls hl => ?_)
  refine lv_iload_n hx hb dX10_count_2 rfl (lv_at hl 2 rfl) ?_
  by_cases c1 : p1 = 0
  · have h := if_t c1 h
    refine lv_tableIn (off := 41) (tgt := 44) hx hb dX10_count_3 (by rw [c1]; decide) (by rw [c1]; decide) (by rw [c1]; rfl) (by decide) ?_
    refine lv_aload_n hx hb dX10_count_44 rfl (lv_at hl 1 rfl) ?_
    refine r_gi S hE hw 0 iw10_X10_count rfl rfl (by decide) (hts _ mf7_X10_count) dX10_count_45 ?_
    obtain rfl := Option.some.inj h
    exact r_iret S hr hlocks hw dX10_count_48
  have h := if_f c1 h
  by_cases c2 : p1 = 1
  · have h := if_t c2 h
    refine lv_tableIn (off := 46) (tgt := 49) hx hb dX10_count_3 (by rw [c2]; decide) (by rw [c2]; decide) (by rw [c2]; rfl) (by decide) ?_
    refine lv_aload_n hx hb dX10_count_49 rfl (lv_at hl 1 rfl) ?_
    refine r_gi S hE hw 1 iw10_X10_count rfl rfl (by decide) (hts _ mf13_X10_count) dX10_count_50 ?_
    obtain rfl := Option.some.inj h
    exact r_iret S hr hlocks hw dX10_count_53
  have h := if_f c2 h
  by_cases c3 : p1 = 2
  · have h := if_t c3 h
    refine lv_tableIn (off := 51) (tgt := 54) hx hb dX10_count_3 (by rw [c3]; decide) (by rw [c3]; decide) (by rw [c3]; rfl) (by decide) ?_
    refine lv_aload_n hx hb dX10_count_54 rfl (lv_at hl 1 rfl) ?_
    refine r_gi S hE hw 8 iw10_X10_count rfl rfl (by decide) (hts _ mf112_X10_count) dX10_count_55 ?_
    obtain rfl := Option.some.inj h
    exact r_iret S hr hlocks hw dX10_count_58
  have h := if_f c3 h
  by_cases c4 : p1 = 3
  · have h := if_t c4 h
    refine lv_tableIn (off := 56) (tgt := 59) hx hb dX10_count_3 (by rw [c4]; decide) (by rw [c4]; decide) (by rw [c4]; rfl) (by decide) ?_
    refine lv_iconst (v := 0) hx hb dX10_count_59 (by decide) ?_
    refine lv_istore_n (lv' := [(3, .int 0), (2, .int 0), (0, .ref (ad G 72)), (1, .int p1)]) hx hb dX10_count_60 rfl hl (by decide) rfl (fun ls hl => ?_)
    exact w_X10_count_61   S hr hlocks hE  10000 σ 0 0 h hw (lv_sub hl [2, 1, 0] rfl)
  have h := if_f c4 h
  by_cases c5 : p1 = 4
  · have h := if_t c5 h
    refine lv_tableIn (off := 91) (tgt := 94) hx hb dX10_count_3 (by rw [c5]; decide) (by rw [c5]; decide) (by rw [c5]; rfl) (by decide) ?_
    refine lv_aload_n hx hb dX10_count_94 rfl (lv_at hl 1 rfl) ?_
    refine r_gi S hE hw 23 iw10_X10_count rfl rfl (by decide) (hts _ mf115_X10_count) dX10_count_95 ?_
    obtain rfl := Option.some.inj h
    exact r_iret S hr hlocks hw dX10_count_98
  have h := if_f c5 h
  by_cases c6 : p1 = 5
  · have h := if_t c6 h
    refine lv_tableIn (off := 96) (tgt := 99) hx hb dX10_count_3 (by rw [c6]; decide) (by rw [c6]; decide) (by rw [c6]; rfl) (by decide) ?_
    refine lv_iconst (v := 0) hx hb dX10_count_99 (by decide) ?_
    refine lv_istore_n (lv' := [(3, .int 0), (2, .int 0), (0, .ref (ad G 72)), (1, .int p1)]) hx hb dX10_count_100 rfl hl (by decide) rfl (fun ls hl => ?_)
    exact w_X10_count_101   S hr hlocks hE  10000 σ 0 0 h hw (lv_sub hl [2, 1, 0] rfl)
  have h := if_f c6 h
  by_cases c7 : p1 = 6
  · have h := if_t c7 h
    refine lv_tableIn (off := 131) (tgt := 134) hx hb dX10_count_3 (by rw [c7]; decide) (by rw [c7]; decide) (by rw [c7]; rfl) (by decide) ?_
    refine lv_iconst (v := 0) hx hb dX10_count_134 (by decide) ?_
    refine lv_istore_n (lv' := [(3, .int 0), (2, .int 0), (0, .ref (ad G 72)), (1, .int p1)]) hx hb dX10_count_135 rfl hl (by decide) rfl (fun ls hl => ?_)
    exact w_X10_count_136   S hr hlocks hE  10000 σ 0 0 h hw (lv_sub hl [2, 1, 0] rfl)
  have h := if_f c7 h
  refine lv_tableOut (tgt := 195) hx hb dX10_count_3 (sw7_out c1 c2 c3 c4 c5 c6 c7) (by decide) ?_
  refine lv_bipush (v := (-2)) hx hb dX10_count_195 (by decide) ?_
  obtain rfl := Option.some.inj h
  exact r_iret S hr hlocks hw dX10_count_197

