theorem mf16_X10_fly : Cond.fieldLink RX10 16 "GasVoyagesModel" "kinds" "[I" ∈ wsX10_fly := by decide +kernel
set_option maxRecDepth 20000 in
theorem iw10_X10_fly : ∀ w ∈ u_ws RX10 TX10 43, w ∈ wsX10_fly := by decide +kernel
theorem mf112_X10_fly : Cond.fieldLink RX10 112 "GasVoyagesModel" "flights" "I" ∈ wsX10_fly := by decide +kernel
theorem mf35_X10_fly : Cond.fieldLink RX10 35 "GasVoyagesModel" "fx" "[I" ∈ wsX10_fly := by decide +kernel
theorem mf38_X10_fly : Cond.fieldLink RX10 38 "GasVoyagesModel" "fy" "[I" ∈ wsX10_fly := by decide +kernel
theorem mf41_X10_fly : Cond.fieldLink RX10 41 "GasVoyagesModel" "fl" "[I" ∈ wsX10_fly := by decide +kernel
theorem mf44_X10_fly : Cond.fieldLink RX10 44 "GasVoyagesModel" "ft" "[I" ∈ wsX10_fly := by decide +kernel
theorem mf63_X10_fly : Cond.fieldLink RX10 63 "GasVoyagesModel" "begun" "[I" ∈ wsX10_fly := by decide +kernel
theorem mf47_X10_fly : Cond.fieldLink RX10 47 "GasVoyagesModel" "load" "[I" ∈ wsX10_fly := by decide +kernel
theorem mf50_X10_fly : Cond.fieldLink RX10 50 "GasVoyagesModel" "gas" "[I" ∈ wsX10_fly := by decide +kernel
theorem mf53_X10_fly : Cond.fieldLink RX10 53 "GasVoyagesModel" "ballast" "[I" ∈ wsX10_fly := by decide +kernel
theorem mf56_X10_fly : Cond.fieldLink RX10 56 "GasVoyagesModel" "gone" "[I" ∈ wsX10_fly := by decide +kernel
theorem mf59_X10_fly : Cond.fieldLink RX10 59 "GasVoyagesModel" "landed" "[Z" ∈ wsX10_fly := by decide +kernel
theorem mf66_X10_fly : Cond.fieldLink RX10 66 "GasVoyagesModel" "entries" "[I" ∈ wsX10_fly := by decide +kernel
def f_X10_fly (σ : St) (p1 : Int32) (p2 : Int32) (p3 : Int32) (p4 : Int32) (p5 : Int32) (p6 : Int32) : Option (Int32 × St) := if (f_X10_isCell σ p1 p2) = 0 then (some ((-2), σ)) else (if (f_X10_in p3 0 23) = 0 then (some ((-2), σ)) else (if (f_X10_in p4 1 200) = 0 then (some ((-2), σ)) else (if (f_X10_in p5 0 500) = 0 then (some ((-2), σ)) else (if (f_X10_in p6 0 200) = 0 then (some ((-2), σ)) else (Option.bind (aL σ 73 576 ((24 * p2) + p1)) fun v11 => if v11 = 2 then (some ((-3), σ)) else (if (σ.1 72 8) = 8 then (some ((-4), σ)) else (bT (up σ 72 8 ((σ.1 72 8) + 1)) fun s14 => Option.bind (aS s14 79 8 (σ.1 72 8) p1) fun s15 => Option.bind (aS s15 80 8 (σ.1 72 8) p2) fun s16 => Option.bind (aS s16 81 8 (σ.1 72 8) 1) fun s17 => Option.bind (aS s17 82 8 (σ.1 72 8) p3) fun s18 => Option.bind (aS s18 88 8 (σ.1 72 8) p3) fun s19 => Option.bind (aS s19 83 8 (σ.1 72 8) p4) fun s20 => Option.bind (aS s20 84 8 (σ.1 72 8) p5) fun s21 => Option.bind (aS s21 85 8 (σ.1 72 8) p6) fun s22 => Option.bind (aS s22 86 8 (σ.1 72 8) 0) fun s23 => Option.bind (aS s23 87 8 (σ.1 72 8) (vp_nar .boolean 0)) fun s24 => Option.bind (aS s24 89 8 (σ.1 72 8) 0) fun s25 => Option.bind (f_X10_writes s25 (σ.1 72 8)) fun s26 => some (σ.1 72 8, s26))))))))
set_option maxRecDepth 100000 in
set_option maxHeartbeats 4000000 in
theorem c_X10_fly (l : Launch) (G : Gp) (A : Nat → Prop) (σ : St) (p1 : Int32) (p2 : Int32) (p3 : Int32) (p4 : Int32) (p5 : Int32) (p6 : Int32) {r : Int32} {σ' : St} (h : f_X10_fly σ p1 p2 p3 p4 p5 p6 = some (r, σ')) : Ki l yX10_fly wsX10_fly 2 G A [.ref (ad G 72), .int p1, .int p2, .int p3, .int p4, .int p5, .int p6] σ r σ' := by
  unfold f_X10_fly at h
  refine r_start (ws := wsX10_fly) (d := 2) (by decide) rfl [.ref (ad G 72), .int p1, .int p2, .int p3, .int p4, .int p5, .int p6] (Nat.le_of_ble_eq_true rfl) ?_
  intro p e s m below meth c S hr hlocks hE hw ls hl
  have hl : lv_has ls 8 [(0, .ref (ad G 72)), (1, .int p1), (2, .int p2), (3, .int p3), (4, .int p4), (5, .int p5), (6, .int p6)] := hl
  obtain ⟨hx, hb, hml, hown, hts⟩ := id S
  refine lv_aload_n hx hb dX10_fly_0 rfl (lv_at hl 0 rfl) ?_
  refine lv_iload_n hx hb dX10_fly_1 rfl (lv_at hl 1 rfl) ?_
  refine lv_iload_n hx hb dX10_fly_2 rfl (lv_at hl 2 rfl) ?_
  refine r_cz (r_runV (k := 72) (ci := 10) (As := [.int p1, .int p2]) (rest := []) S hE hw (c_X10_isCell  l G A σ p1 p2) (cwV 2 hts gX10_fly_X10_isCell rfl rfl rfl (by decide +kernel) ⟨Nat.le_of_ble_eq_true rfl, Nat.le_of_ble_eq_true rfl⟩) rfl rfl (by decide) rfl hl.1 rfl (Nat.le_of_ble_eq_true rfl) ⟨Nat.zero_le _, Nat.zero_le _⟩ dX10_fly_3) hw (fun H locs hw hb1 => ?_)
  refine lv_if_eq (tgt := 55) hx hb dX10_fly_6 (by decide) (fun c2 => ?_) (fun c2 => ?_)
  · have h := if_t c2 h
    refine lv_bipush (v := (-2)) hx hb dX10_fly_55 (by decide) ?_
    obtain ⟨rfl, rfl⟩ := rt2 h
    exact r_iret S hr hlocks hw dX10_fly_57
  · have h := if_f c2 h
    refine lv_iload_n hx hb dX10_fly_9 rfl (lv_at hl 3 rfl) ?_
    refine lv_iconst (v := 0) hx hb dX10_fly_10 (by decide) ?_
    refine lv_bipush (v := 23) hx hb dX10_fly_11 (by decide) ?_
    refine r_cz (r_runS (As := [.int p3, .int 0, .int 23]) (rest := []) S hE hw (c_X10_in  l G A σ p3 0 23) (va_cwS 3 hts gX10_fly_X10_in rfl rfl rfl (by decide +kernel) ⟨Nat.le_of_ble_eq_true rfl, Nat.le_of_ble_eq_true rfl⟩) rfl hl.1 rfl (Nat.le_of_ble_eq_true rfl) ⟨Nat.zero_le _, Nat.zero_le _⟩ dX10_fly_13) hw (fun H locs hw hb3 => ?_)
    refine lv_if_eq (tgt := 55) hx hb dX10_fly_16 (by decide) (fun c4 => ?_) (fun c4 => ?_)
    · have h := if_t c4 h
      refine lv_bipush (v := (-2)) hx hb dX10_fly_55 (by decide) ?_
      obtain ⟨rfl, rfl⟩ := rt2 h
      exact r_iret S hr hlocks hw dX10_fly_57
    · have h := if_f c4 h
      refine lv_iload hx hb dX10_fly_19 (lv_at hl 4 rfl) ?_
      refine lv_iconst (v := 1) hx hb dX10_fly_21 (by decide) ?_
      refine lv_sipush (v := 200) hx hb dX10_fly_22 (by decide) ?_
      refine r_cz (r_runS (As := [.int p4, .int 1, .int 200]) (rest := []) S hE hw (c_X10_in  l G A σ p4 1 200) (va_cwS 3 hts gX10_fly_X10_in rfl rfl rfl (by decide +kernel) ⟨Nat.le_of_ble_eq_true rfl, Nat.le_of_ble_eq_true rfl⟩) rfl hl.1 rfl (Nat.le_of_ble_eq_true rfl) ⟨Nat.zero_le _, Nat.zero_le _⟩ dX10_fly_25) hw (fun H locs hw hb5 => ?_)
      refine lv_if_eq (tgt := 55) hx hb dX10_fly_28 (by decide) (fun c6 => ?_) (fun c6 => ?_)
      · have h := if_t c6 h
        refine lv_bipush (v := (-2)) hx hb dX10_fly_55 (by decide) ?_
        obtain ⟨rfl, rfl⟩ := rt2 h
        exact r_iret S hr hlocks hw dX10_fly_57
      · have h := if_f c6 h
        refine lv_iload hx hb dX10_fly_31 (lv_at hl 5 rfl) ?_
        refine lv_iconst (v := 0) hx hb dX10_fly_33 (by decide) ?_
        refine lv_sipush (v := 500) hx hb dX10_fly_34 (by decide) ?_
        refine r_cz (r_runS (As := [.int p5, .int 0, .int 500]) (rest := []) S hE hw (c_X10_in  l G A σ p5 0 500) (va_cwS 3 hts gX10_fly_X10_in rfl rfl rfl (by decide +kernel) ⟨Nat.le_of_ble_eq_true rfl, Nat.le_of_ble_eq_true rfl⟩) rfl hl.1 rfl (Nat.le_of_ble_eq_true rfl) ⟨Nat.zero_le _, Nat.zero_le _⟩ dX10_fly_37) hw (fun H locs hw hb7 => ?_)
        refine lv_if_eq (tgt := 55) hx hb dX10_fly_40 (by decide) (fun c8 => ?_) (fun c8 => ?_)
        · have h := if_t c8 h
          refine lv_bipush (v := (-2)) hx hb dX10_fly_55 (by decide) ?_
          obtain ⟨rfl, rfl⟩ := rt2 h
          exact r_iret S hr hlocks hw dX10_fly_57
        · have h := if_f c8 h
          refine lv_iload hx hb dX10_fly_43 (lv_at hl 6 rfl) ?_
          refine lv_iconst (v := 0) hx hb dX10_fly_45 (by decide) ?_
          refine lv_sipush (v := 200) hx hb dX10_fly_46 (by decide) ?_
          refine r_cz (r_runS (As := [.int p6, .int 0, .int 200]) (rest := []) S hE hw (c_X10_in  l G A σ p6 0 200) (va_cwS 3 hts gX10_fly_X10_in rfl rfl rfl (by decide +kernel) ⟨Nat.le_of_ble_eq_true rfl, Nat.le_of_ble_eq_true rfl⟩) rfl hl.1 rfl (Nat.le_of_ble_eq_true rfl) ⟨Nat.zero_le _, Nat.zero_le _⟩ dX10_fly_49) hw (fun H locs hw hb9 => ?_)
          refine lv_if_ne (tgt := 58) hx hb dX10_fly_52 (by decide) (fun c10 => ?_) (fun c10 => ?_)
          · have h := if_f c10 h
            refine lv_aload_n hx hb dX10_fly_58 rfl (lv_at hl 0 rfl) ?_
            refine r_gr S hE hw 2 73 iw10_X10_fly rfl rfl (by decide) rfl (hts _ mf16_X10_fly) dX10_fly_59 ?_
            refine lv_bipush (v := 24) hx hb dX10_fly_62 (by decide) ?_
            refine lv_iload_n hx hb dX10_fly_64 rfl (lv_at hl 2 rfl) ?_
            refine lv_imul hx hb dX10_fly_65 ?_
            refine lv_iload_n hx hb dX10_fly_66 rfl (lv_at hl 1 rfl) ?_
            refine lv_iadd hx hb dX10_fly_67 ?_
            obtain ⟨v11, gv11, h⟩ := oB_out h
            refine r_al S hE hw rfl rfl gv11 dX10_fly_68 ?_
            refine lv_iconst (v := 2) hx hb dX10_fly_69 (by decide) ?_
            refine lv_icmp_ne (tgt := 76) hx hb dX10_fly_70 (by decide) (fun c12 => ?_) (fun c12 => ?_)
            · have h := if_f c12 h
              refine lv_aload_n hx hb dX10_fly_76 rfl (lv_at hl 0 rfl) ?_
              refine r_gi S hE hw 8 iw10_X10_fly rfl rfl (by decide) (hts _ mf112_X10_fly) dX10_fly_77 ?_
              refine lv_bipush (v := 8) hx hb dX10_fly_80 (by decide) ?_
              refine lv_icmp_ne (tgt := 88) hx hb dX10_fly_82 (by decide) (fun c13 => ?_) (fun c13 => ?_)
              · have h := if_f c13 h
                refine lv_aload_n hx hb dX10_fly_88 rfl (lv_at hl 0 rfl) ?_
                refine r_gi S hE hw 8 iw10_X10_fly rfl rfl (by decide) (hts _ mf112_X10_fly) dX10_fly_89 ?_
                refine lv_istore (lv' := [(7, .int (σ.1 72 8)), (0, .ref (ad G 72)), (1, .int p1), (2, .int p2), (3, .int p3), (4, .int p4), (5, .int p5), (6, .int p6)]) hx hb dX10_fly_92 hl (by decide) rfl (fun ls hl => ?_)
                refine lv_aload_n hx hb dX10_fly_94 rfl (lv_at hl 1 rfl) ?_
                refine lv_dup hx hb dX10_fly_95 rfl ?_
                refine r_gi S hE hw 8 iw10_X10_fly rfl rfl (by decide) (hts _ mf112_X10_fly) dX10_fly_96 ?_
                refine lv_iconst (v := 1) hx hb dX10_fly_99 (by decide) ?_
                refine lv_iadd hx hb dX10_fly_100 ?_
                obtain ⟨s14, gs14, h⟩ := bT_out h
                refine r_pi S hE hw 8 ((σ.1 72 8) + 1) iw10_X10_fly tyX10 tyX10_ok nmX10 rfl rfl (by decide) (hts _ mf112_X10_fly) rfl (ty := .int) (by decide +kernel) rfl rfl dX10_fly_101 (fun H locs hw => ?_)
                rw [← gs14] at hw
                refine lv_aload_n hx hb dX10_fly_104 rfl (lv_at hl 1 rfl) ?_
                refine r_gr S hE hw 9 79 iw10_X10_fly rfl rfl (by decide) rfl (hts _ mf35_X10_fly) dX10_fly_105 ?_
                refine lv_iload hx hb dX10_fly_108 (lv_at hl 0 rfl) ?_
                refine lv_iload_n hx hb dX10_fly_110 rfl (lv_at hl 2 rfl) ?_
                obtain ⟨s15, gs15, h⟩ := oB_out h
                refine r_as S hE hw rfl rfl gs15 dX10_fly_111 (fun H locs hw => ?_)
                refine lv_aload_n hx hb dX10_fly_112 rfl (lv_at hl 1 rfl) ?_
                refine r_gr S hE hw 10 80 iw10_X10_fly rfl rfl (by decide) rfl (hts _ mf38_X10_fly) dX10_fly_113 ?_
                refine lv_iload hx hb dX10_fly_116 (lv_at hl 0 rfl) ?_
                refine lv_iload_n hx hb dX10_fly_118 rfl (lv_at hl 3 rfl) ?_
                obtain ⟨s16, gs16, h⟩ := oB_out h
                refine r_as S hE hw rfl rfl gs16 dX10_fly_119 (fun H locs hw => ?_)
                refine lv_aload_n hx hb dX10_fly_120 rfl (lv_at hl 1 rfl) ?_
                refine r_gr S hE hw 11 81 iw10_X10_fly rfl rfl (by decide) rfl (hts _ mf41_X10_fly) dX10_fly_121 ?_
                refine lv_iload hx hb dX10_fly_124 (lv_at hl 0 rfl) ?_
                refine lv_iconst (v := 1) hx hb dX10_fly_126 (by decide) ?_
                obtain ⟨s17, gs17, h⟩ := oB_out h
                refine r_as S hE hw rfl rfl gs17 dX10_fly_127 (fun H locs hw => ?_)
                refine lv_aload_n hx hb dX10_fly_128 rfl (lv_at hl 1 rfl) ?_
                refine r_gr S hE hw 12 82 iw10_X10_fly rfl rfl (by decide) rfl (hts _ mf44_X10_fly) dX10_fly_129 ?_
                refine lv_iload hx hb dX10_fly_132 (lv_at hl 0 rfl) ?_
                refine lv_iload_n hx hb dX10_fly_134 rfl (lv_at hl 4 rfl) ?_
                obtain ⟨s18, gs18, h⟩ := oB_out h
                refine r_as S hE hw rfl rfl gs18 dX10_fly_135 (fun H locs hw => ?_)
                refine lv_aload_n hx hb dX10_fly_136 rfl (lv_at hl 1 rfl) ?_
                refine r_gr S hE hw 18 88 iw10_X10_fly rfl rfl (by decide) rfl (hts _ mf63_X10_fly) dX10_fly_137 ?_
                refine lv_iload hx hb dX10_fly_140 (lv_at hl 0 rfl) ?_
                refine lv_iload_n hx hb dX10_fly_142 rfl (lv_at hl 4 rfl) ?_
                obtain ⟨s19, gs19, h⟩ := oB_out h
                refine r_as S hE hw rfl rfl gs19 dX10_fly_143 (fun H locs hw => ?_)
                refine lv_aload_n hx hb dX10_fly_144 rfl (lv_at hl 1 rfl) ?_
                refine r_gr S hE hw 13 83 iw10_X10_fly rfl rfl (by decide) rfl (hts _ mf47_X10_fly) dX10_fly_145 ?_
                refine lv_iload hx hb dX10_fly_148 (lv_at hl 0 rfl) ?_
                refine lv_iload hx hb dX10_fly_150 (lv_at hl 5 rfl) ?_
                obtain ⟨s20, gs20, h⟩ := oB_out h
                refine r_as S hE hw rfl rfl gs20 dX10_fly_152 (fun H locs hw => ?_)
                refine lv_aload_n hx hb dX10_fly_153 rfl (lv_at hl 1 rfl) ?_
                refine r_gr S hE hw 14 84 iw10_X10_fly rfl rfl (by decide) rfl (hts _ mf50_X10_fly) dX10_fly_154 ?_
                refine lv_iload hx hb dX10_fly_157 (lv_at hl 0 rfl) ?_
                refine lv_iload hx hb dX10_fly_159 (lv_at hl 6 rfl) ?_
                obtain ⟨s21, gs21, h⟩ := oB_out h
                refine r_as S hE hw rfl rfl gs21 dX10_fly_161 (fun H locs hw => ?_)
                refine lv_aload_n hx hb dX10_fly_162 rfl (lv_at hl 1 rfl) ?_
                refine r_gr S hE hw 15 85 iw10_X10_fly rfl rfl (by decide) rfl (hts _ mf53_X10_fly) dX10_fly_163 ?_
                refine lv_iload hx hb dX10_fly_166 (lv_at hl 0 rfl) ?_
                refine lv_iload hx hb dX10_fly_168 (lv_at hl 7 rfl) ?_
                obtain ⟨s22, gs22, h⟩ := oB_out h
                refine r_as S hE hw rfl rfl gs22 dX10_fly_170 (fun H locs hw => ?_)
                refine lv_aload_n hx hb dX10_fly_171 rfl (lv_at hl 1 rfl) ?_
                refine r_gr S hE hw 16 86 iw10_X10_fly rfl rfl (by decide) rfl (hts _ mf56_X10_fly) dX10_fly_172 ?_
                refine lv_iload hx hb dX10_fly_175 (lv_at hl 0 rfl) ?_
                refine lv_iconst (v := 0) hx hb dX10_fly_177 (by decide) ?_
                obtain ⟨s23, gs23, h⟩ := oB_out h
                refine r_as S hE hw rfl rfl gs23 dX10_fly_178 (fun H locs hw => ?_)
                refine lv_aload_n hx hb dX10_fly_179 rfl (lv_at hl 1 rfl) ?_
                refine r_gr S hE hw 17 87 iw10_X10_fly rfl rfl (by decide) rfl (hts _ mf59_X10_fly) dX10_fly_180 ?_
                refine lv_iload hx hb dX10_fly_183 (lv_at hl 0 rfl) ?_
                refine lv_iconst (v := 0) hx hb dX10_fly_185 (by decide) ?_
                obtain ⟨s24, gs24, h⟩ := oB_out h
                refine r_zs S hE hw rfl rfl gs24 dX10_fly_186 (fun H locs hw => ?_)
                refine lv_aload_n hx hb dX10_fly_187 rfl (lv_at hl 1 rfl) ?_
                refine r_gr S hE hw 19 89 iw10_X10_fly rfl rfl (by decide) rfl (hts _ mf66_X10_fly) dX10_fly_188 ?_
                refine lv_iload hx hb dX10_fly_191 (lv_at hl 0 rfl) ?_
                refine lv_iconst (v := 0) hx hb dX10_fly_193 (by decide) ?_
                obtain ⟨s25, gs25, h⟩ := oB_out h
                refine r_as S hE hw rfl rfl gs25 dX10_fly_194 (fun H locs hw => ?_)
                refine lv_aload_n hx hb dX10_fly_195 rfl (lv_at hl 1 rfl) ?_
                refine lv_iload hx hb dX10_fly_196 (lv_at hl 0 rfl) ?_
                obtain ⟨s26, gs26, h⟩ := oB_out h
                refine r_cv (r_runV (k := 72) (ci := 10) (As := [.int (σ.1 72 8)]) (rest := []) S hE hw (c_X10_writes  l G A s25 (σ.1 72 8) gs26) (cwV 1 hts gX10_fly_X10_writes rfl rfl rfl (by decide +kernel) ⟨Nat.le_of_ble_eq_true rfl, Nat.le_of_ble_eq_true rfl⟩) rfl rfl (by decide) rfl hl.1 rfl (Nat.le_of_ble_eq_true rfl) ⟨Nat.zero_le _, Nat.zero_le _⟩ dX10_fly_198) hw (fun H locs hw => ?_)
                refine lv_iload hx hb dX10_fly_201 (lv_at hl 0 rfl) ?_
                obtain ⟨rfl, rfl⟩ := rt2 h
                exact r_iret S hr hlocks hw dX10_fly_203
              · have h := if_t c13 h
                refine lv_bipush (v := (-4)) hx hb dX10_fly_85 (by decide) ?_
                obtain ⟨rfl, rfl⟩ := rt2 h
                exact r_iret S hr hlocks hw dX10_fly_87
            · have h := if_t c12 h
              refine lv_bipush (v := (-3)) hx hb dX10_fly_73 (by decide) ?_
              obtain ⟨rfl, rfl⟩ := rt2 h
              exact r_iret S hr hlocks hw dX10_fly_75
          · have h := if_t c10 h
            refine lv_bipush (v := (-2)) hx hb dX10_fly_55 (by decide) ?_
            obtain ⟨rfl, rfl⟩ := rt2 h
            exact r_iret S hr hlocks hw dX10_fly_57


theorem mf59_X10_go : Cond.fieldLink RX10 59 "GasVoyagesModel" "landed" "[Z" ∈ wsX10_go := by decide +kernel
set_option maxRecDepth 20000 in
theorem iw10_X10_go : ∀ w ∈ u_ws RX10 TX10 43, w ∈ wsX10_go := by decide +kernel
theorem mf66_X10_go : Cond.fieldLink RX10 66 "GasVoyagesModel" "entries" "[I" ∈ wsX10_go := by decide +kernel
theorem mf44_X10_go : Cond.fieldLink RX10 44 "GasVoyagesModel" "ft" "[I" ∈ wsX10_go := by decide +kernel
theorem mf47_X10_go : Cond.fieldLink RX10 47 "GasVoyagesModel" "load" "[I" ∈ wsX10_go := by decide +kernel
theorem mf35_X10_go : Cond.fieldLink RX10 35 "GasVoyagesModel" "fx" "[I" ∈ wsX10_go := by decide +kernel
theorem mf138_X10_go : Cond.fieldLink RX10 138 "GasVoyagesModel" "nowX" "I" ∈ wsX10_go := by decide +kernel
theorem mf38_X10_go : Cond.fieldLink RX10 38 "GasVoyagesModel" "fy" "[I" ∈ wsX10_go := by decide +kernel
theorem mf141_X10_go : Cond.fieldLink RX10 141 "GasVoyagesModel" "nowY" "I" ∈ wsX10_go := by decide +kernel
theorem mf41_X10_go : Cond.fieldLink RX10 41 "GasVoyagesModel" "fl" "[I" ∈ wsX10_go := by decide +kernel
theorem mf132_X10_go : Cond.fieldLink RX10 132 "GasVoyagesModel" "nowLevel" "I" ∈ wsX10_go := by decide +kernel
theorem mf50_X10_go : Cond.fieldLink RX10 50 "GasVoyagesModel" "gas" "[I" ∈ wsX10_go := by decide +kernel
theorem mf129_X10_go : Cond.fieldLink RX10 129 "GasVoyagesModel" "nowGas" "I" ∈ wsX10_go := by decide +kernel
theorem mf53_X10_go : Cond.fieldLink RX10 53 "GasVoyagesModel" "ballast" "[I" ∈ wsX10_go := by decide +kernel
theorem mf126_X10_go : Cond.fieldLink RX10 126 "GasVoyagesModel" "nowBallast" "I" ∈ wsX10_go := by decide +kernel
theorem mf56_X10_go : Cond.fieldLink RX10 56 "GasVoyagesModel" "gone" "[I" ∈ wsX10_go := by decide +kernel
theorem mf135_X10_go : Cond.fieldLink RX10 135 "GasVoyagesModel" "nowGone" "I" ∈ wsX10_go := by decide +kernel
def f_X10_go_193 (kn73 : St → Int32 → Int32 → Int32 → Int32 → Int32 → Option (Int32 × St)) (σ : St) (x1 : Int32) (x2 : Int32) (x3 : Int32) (x4 : Int32) (x5 : Int32) (y0 : Int32) (y1 : Int32) : Option (Int32 × St) := Option.bind (aS σ 87 8 y1 (vp_nar .boolean y0)) fun s1 => Option.bind (aL s1 82 8 x1) fun v2 => Option.bind (aS s1 82 8 x1 (v2 + 1)) fun s3 => Option.bind (f_X10_writes s3 x1) fun s4 => kn73 s4 x1 x2 x3 x4 (x5 + 1)
set_option maxRecDepth 100000 in
set_option maxHeartbeats 4000000 in
theorem w_X10_go_193 {p : Program} {l : Launch} {e : Env} {s : State} {m : MethodId} {args : Array Value} {below : List Frame} {meth : Method} {c : Code} {G : Gp} {A : Nat → Prop} (S : CallFix p m c cX10_go 6 s args wsX10_go RX10) (hr : meth.sig.returnType = (some .int)) (hlocks : meth.locks = false) (hE : Ev G A s) {kn73 : St → Int32 → Int32 → Int32 → Int32 → Int32 → Option (Int32 × St)} (hkn73 : ∀ (σ : St) (x1 : Int32) (x2 : Int32) (x3 : Int32) (x4 : Int32) (x5 : Int32) (r : Int32) (σ' : St), kn73 σ x1 x2 x3 x4 x5 = some (r, σ') → ∀ (H : Heap) (locs : List Loc) (ls : Array Slot), Ww G A σ s H locs → lv_has ls 6 [(0, .ref (ad G 72)), (1, .int x1), (2, .int x2), (3, .int x3), (4, .int x4), (5, .int x5)] → W p l e (rmd 4) s m args below meth c H locs 0 0 (Qi below args s G A r σ') (F0 m 73 ls [])) (σ : St) (x1 : Int32) (x2 : Int32) (x3 : Int32) (x4 : Int32) (x5 : Int32) (y0 : Int32) (y1 : Int32) {r : Int32} {σ' : St} (h : f_X10_go_193  kn73 σ x1 x2 x3 x4 x5 y0 y1 = some (r, σ')) {H : Heap} {locs : List Loc} {ls : Array Slot} (hw : Ww G A σ s H locs) (hl : lv_has ls 6 [(0, .ref (ad G 72)), (1, .int x1), (2, .int x2), (3, .int x3), (4, .int x4), (5, .int x5)]) : W p l e (rmd 4) s m args below meth c H locs 0 0 (Qi below args s G A r σ') (F0 m 193 ls [.int y0, .int y1, .ref (ad G 87)]) := by
  obtain ⟨hx, hb, hml, hown, hts⟩ := id S
  unfold f_X10_go_193 at h
  obtain ⟨s1, gs1, h⟩ := oB_out h
  refine r_zs S hE hw rfl rfl gs1 dX10_go_193 (fun H locs hw => ?_)
  refine lv_aload_n hx hb dX10_go_194 rfl (lv_at hl 0 rfl) ?_
  refine r_gr S hE hw 12 82 iw10_X10_go rfl rfl (by decide) rfl (hts _ mf44_X10_go) dX10_go_195 ?_
  refine lv_iload_n hx hb dX10_go_198 rfl (lv_at hl 1 rfl) ?_
  refine lv_dup2_11 hx hb dX10_go_199 rfl rfl ?_
  obtain ⟨v2, gv2, h⟩ := oB_out h
  refine r_al S hE hw rfl rfl gv2 dX10_go_200 ?_
  refine lv_iconst (v := 1) hx hb dX10_go_201 (by decide) ?_
  refine lv_iadd hx hb dX10_go_202 ?_
  obtain ⟨s3, gs3, h⟩ := oB_out h
  refine r_as S hE hw rfl rfl gs3 dX10_go_203 (fun H locs hw => ?_)
  refine lv_aload_n hx hb dX10_go_204 rfl (lv_at hl 0 rfl) ?_
  refine lv_iload_n hx hb dX10_go_205 rfl (lv_at hl 1 rfl) ?_
  obtain ⟨s4, gs4, h⟩ := oB_out h
  refine r_cv (r_runV (k := 72) (ci := 10) (As := [.int x1]) (rest := []) S hE hw (c_X10_writes  l G A s3 x1 gs4) (cwV 1 hts gX10_go_X10_writes rfl rfl rfl (by decide +kernel) ⟨Nat.le_of_ble_eq_true rfl, Nat.le_of_ble_eq_true rfl⟩) rfl rfl (by decide) rfl hl.1 rfl (Nat.le_of_ble_eq_true rfl) ⟨Nat.zero_le _, Nat.zero_le _⟩ dX10_go_206) hw (fun H locs hw => ?_)
  refine lv_iinc (v := x5 + 1) (lv' := [(5, .int (x5 + 1)), (0, .ref (ad G 72)), (1, .int x1), (2, .int x2), (3, .int x3), (4, .int x4)]) hx hb dX10_go_209 hl (k := 5) rfl rfl (by decide) rfl (fun ls hl => ?_)
  refine lv_goto (tgt := 73) hx hb dX10_go_212 (by decide) ?_
  exact hkn73 s4 x1 x2 x3 x4 (x5 + 1) _ _ h _ _ _ hw (lv_sub hl [1, 2, 3, 4, 5, 0] rfl)

def f_X10_go_73 : Nat → St → Int32 → Int32 → Int32 → Int32 → Int32 → Option (Int32 × St)
  | 0, _, _, _, _, _, _ => none
  | n + 1, σ, x1, x2, x3, x4, x5 => if x4 ≤ x5 then (some (x5, σ)) else (Option.bind (aL σ 87 8 x1) fun v2 => if v2 = 0 then (Option.bind (f_X10_begin σ x1) fun s4 => Option.bind (aL s4 82 8 x1) fun v5 => Option.bind (aL s4 83 8 x1) fun v6 => Option.bind (f_X10_tick s4 0 (v5 - v5 / 24 * 24) v6 x2 x3) fun s7 => Option.bind (aS s7 79 8 x1 (s7.1 72 29)) fun s8 => Option.bind (aS s8 80 8 x1 (s8.1 72 30)) fun s9 => Option.bind (aS s9 81 8 x1 (s9.1 72 31)) fun s10 => Option.bind (aS s10 84 8 x1 (s10.1 72 32)) fun s11 => Option.bind (aS s11 85 8 x1 (s11.1 72 33)) fun s12 => Option.bind (aS s12 86 8 x1 (s12.1 72 34)) fun s13 => if (s13.1 72 31) = 0 then (f_X10_go_193 (fun σ x1 x2 x3 x4 x5 => f_X10_go_73 n σ x1 x2 x3 x4 x5) s13 x1 x2 x3 x4 x5 1 x1) else (f_X10_go_193 (fun σ x1 x2 x3 x4 x5 => f_X10_go_73 n σ x1 x2 x3 x4 x5) s13 x1 x2 x3 x4 x5 0 x1)) else (some (x5, σ)))
set_option maxRecDepth 100000 in
set_option maxHeartbeats 4000000 in
theorem w_X10_go_73 {p : Program} {l : Launch} {e : Env} {s : State} {m : MethodId} {args : Array Value} {below : List Frame} {meth : Method} {c : Code} {G : Gp} {A : Nat → Prop} (S : CallFix p m c cX10_go 6 s args wsX10_go RX10) (hr : meth.sig.returnType = (some .int)) (hlocks : meth.locks = false) (hE : Ev G A s) (n : Nat) (σ : St) (x1 : Int32) (x2 : Int32) (x3 : Int32) (x4 : Int32) (x5 : Int32) {r : Int32} {σ' : St} (h : f_X10_go_73   n σ x1 x2 x3 x4 x5 = some (r, σ')) {H : Heap} {locs : List Loc} {ls : Array Slot} (hw : Ww G A σ s H locs) (hl : lv_has ls 6 [(0, .ref (ad G 72)), (1, .int x1), (2, .int x2), (3, .int x3), (4, .int x4), (5, .int x5)]) : W p l e (rmd 4) s m args below meth c H locs 0 0 (Qi below args s G A r σ') (F0 m 73 ls []) := by
  obtain ⟨hx, hb, hml, hown, hts⟩ := id S
  induction n generalizing σ x1 x2 x3 x4 x5 r σ' H locs ls with
  | zero => cases h
  | succ n ih =>
    unfold f_X10_go_73 at h
    refine lv_iload hx hb dX10_go_73 (lv_at hl 5 rfl) ?_
    refine lv_iload hx hb dX10_go_75 (lv_at hl 4 rfl) ?_
    refine lv_icmp_ge (tgt := 215) hx hb dX10_go_77 (by decide) (fun c1 => ?_) (fun c1 => ?_)
    · have h := if_t c1 h
      refine lv_iload hx hb dX10_go_215 (lv_at hl 5 rfl) ?_
      obtain ⟨rfl, rfl⟩ := rt2 h
      exact r_iret S hr hlocks hw dX10_go_217
    · have h := if_f c1 h
      refine lv_aload_n hx hb dX10_go_80 rfl (lv_at hl 0 rfl) ?_
      refine r_gr S hE hw 17 87 iw10_X10_go rfl rfl (by decide) rfl (hts _ mf59_X10_go) dX10_go_81 ?_
      refine lv_iload_n hx hb dX10_go_84 rfl (lv_at hl 1 rfl) ?_
      obtain ⟨v2, gv2, h⟩ := oB_out h
      refine r_zl S hE hw rfl rfl gv2 dX10_go_85 ?_
      refine lv_if_ne (tgt := 215) hx hb dX10_go_86 (by decide) (fun c3 => ?_) (fun c3 => ?_)
      · have h := if_f c3 h
        refine lv_iload hx hb dX10_go_215 (lv_at hl 5 rfl) ?_
        obtain ⟨rfl, rfl⟩ := rt2 h
        exact r_iret S hr hlocks hw dX10_go_217
      · have h := if_t c3 h
        refine lv_aload_n hx hb dX10_go_89 rfl (lv_at hl 0 rfl) ?_
        refine lv_iload_n hx hb dX10_go_90 rfl (lv_at hl 1 rfl) ?_
        obtain ⟨s4, gs4, h⟩ := oB_out h
        refine r_cv (r_runV (k := 72) (ci := 10) (As := [.int x1]) (rest := []) S hE hw (c_X10_begin  l G A σ x1 gs4) (cwV 1 hts gX10_go_X10_begin rfl rfl rfl (by decide +kernel) ⟨Nat.le_of_ble_eq_true rfl, Nat.le_of_ble_eq_true rfl⟩) rfl rfl (by decide) rfl hl.1 rfl (Nat.le_of_ble_eq_true rfl) ⟨Nat.zero_le _, Nat.zero_le _⟩ dX10_go_91) hw (fun H locs hw => ?_)
        refine lv_aload_n hx hb dX10_go_94 rfl (lv_at hl 0 rfl) ?_
        refine lv_iconst (v := 0) hx hb dX10_go_95 (by decide) ?_
        refine lv_aload_n hx hb dX10_go_96 rfl (lv_at hl 0 rfl) ?_
        refine r_gr S hE hw 12 82 iw10_X10_go rfl rfl (by decide) rfl (hts _ mf44_X10_go) dX10_go_97 ?_
        refine lv_iload_n hx hb dX10_go_100 rfl (lv_at hl 1 rfl) ?_
        obtain ⟨v5, gv5, h⟩ := oB_out h
        refine r_al S hE hw rfl rfl gv5 dX10_go_101 ?_
        refine lv_bipush (v := 24) hx hb dX10_go_102 (by decide) ?_
        refine lv_irem hx hb dX10_go_104 (by decide) ?_
        refine lv_aload_n hx hb dX10_go_105 rfl (lv_at hl 0 rfl) ?_
        refine r_gr S hE hw 13 83 iw10_X10_go rfl rfl (by decide) rfl (hts _ mf47_X10_go) dX10_go_106 ?_
        refine lv_iload_n hx hb dX10_go_109 rfl (lv_at hl 1 rfl) ?_
        obtain ⟨v6, gv6, h⟩ := oB_out h
        refine r_al S hE hw rfl rfl gv6 dX10_go_110 ?_
        refine lv_iload_n hx hb dX10_go_111 rfl (lv_at hl 2 rfl) ?_
        refine lv_iload_n hx hb dX10_go_112 rfl (lv_at hl 3 rfl) ?_
        obtain ⟨s7, gs7, h⟩ := oB_out h
        refine r_cv (r_runV (k := 72) (ci := 10) (As := [.int 0, .int (v5 - v5 / 24 * 24), .int v6, .int x2, .int x3]) (rest := []) S hE hw (c_X10_tick  l G A s4 0 (v5 - v5 / 24 * 24) v6 x2 x3 gs7) (cwV 5 hts gX10_go_X10_tick rfl rfl rfl (by decide +kernel) ⟨Nat.le_of_ble_eq_true rfl, Nat.le_of_ble_eq_true rfl⟩) rfl rfl (by decide) rfl hl.1 rfl (Nat.le_of_ble_eq_true rfl) ⟨Nat.zero_le _, Nat.zero_le _⟩ dX10_go_113) hw (fun H locs hw => ?_)
        refine lv_aload_n hx hb dX10_go_116 rfl (lv_at hl 0 rfl) ?_
        refine r_gr S hE hw 9 79 iw10_X10_go rfl rfl (by decide) rfl (hts _ mf35_X10_go) dX10_go_117 ?_
        refine lv_iload_n hx hb dX10_go_120 rfl (lv_at hl 1 rfl) ?_
        refine lv_aload_n hx hb dX10_go_121 rfl (lv_at hl 0 rfl) ?_
        refine r_gi S hE hw 29 iw10_X10_go rfl rfl (by decide) (hts _ mf138_X10_go) dX10_go_122 ?_
        obtain ⟨s8, gs8, h⟩ := oB_out h
        refine r_as S hE hw rfl rfl gs8 dX10_go_125 (fun H locs hw => ?_)
        refine lv_aload_n hx hb dX10_go_126 rfl (lv_at hl 0 rfl) ?_
        refine r_gr S hE hw 10 80 iw10_X10_go rfl rfl (by decide) rfl (hts _ mf38_X10_go) dX10_go_127 ?_
        refine lv_iload_n hx hb dX10_go_130 rfl (lv_at hl 1 rfl) ?_
        refine lv_aload_n hx hb dX10_go_131 rfl (lv_at hl 0 rfl) ?_
        refine r_gi S hE hw 30 iw10_X10_go rfl rfl (by decide) (hts _ mf141_X10_go) dX10_go_132 ?_
        obtain ⟨s9, gs9, h⟩ := oB_out h
        refine r_as S hE hw rfl rfl gs9 dX10_go_135 (fun H locs hw => ?_)
        refine lv_aload_n hx hb dX10_go_136 rfl (lv_at hl 0 rfl) ?_
        refine r_gr S hE hw 11 81 iw10_X10_go rfl rfl (by decide) rfl (hts _ mf41_X10_go) dX10_go_137 ?_
        refine lv_iload_n hx hb dX10_go_140 rfl (lv_at hl 1 rfl) ?_
        refine lv_aload_n hx hb dX10_go_141 rfl (lv_at hl 0 rfl) ?_
        refine r_gi S hE hw 31 iw10_X10_go rfl rfl (by decide) (hts _ mf132_X10_go) dX10_go_142 ?_
        obtain ⟨s10, gs10, h⟩ := oB_out h
        refine r_as S hE hw rfl rfl gs10 dX10_go_145 (fun H locs hw => ?_)
        refine lv_aload_n hx hb dX10_go_146 rfl (lv_at hl 0 rfl) ?_
        refine r_gr S hE hw 14 84 iw10_X10_go rfl rfl (by decide) rfl (hts _ mf50_X10_go) dX10_go_147 ?_
        refine lv_iload_n hx hb dX10_go_150 rfl (lv_at hl 1 rfl) ?_
        refine lv_aload_n hx hb dX10_go_151 rfl (lv_at hl 0 rfl) ?_
        refine r_gi S hE hw 32 iw10_X10_go rfl rfl (by decide) (hts _ mf129_X10_go) dX10_go_152 ?_
        obtain ⟨s11, gs11, h⟩ := oB_out h
        refine r_as S hE hw rfl rfl gs11 dX10_go_155 (fun H locs hw => ?_)
        refine lv_aload_n hx hb dX10_go_156 rfl (lv_at hl 0 rfl) ?_
        refine r_gr S hE hw 15 85 iw10_X10_go rfl rfl (by decide) rfl (hts _ mf53_X10_go) dX10_go_157 ?_
        refine lv_iload_n hx hb dX10_go_160 rfl (lv_at hl 1 rfl) ?_
        refine lv_aload_n hx hb dX10_go_161 rfl (lv_at hl 0 rfl) ?_
        refine r_gi S hE hw 33 iw10_X10_go rfl rfl (by decide) (hts _ mf126_X10_go) dX10_go_162 ?_
        obtain ⟨s12, gs12, h⟩ := oB_out h
        refine r_as S hE hw rfl rfl gs12 dX10_go_165 (fun H locs hw => ?_)
        refine lv_aload_n hx hb dX10_go_166 rfl (lv_at hl 0 rfl) ?_
        refine r_gr S hE hw 16 86 iw10_X10_go rfl rfl (by decide) rfl (hts _ mf56_X10_go) dX10_go_167 ?_
        refine lv_iload_n hx hb dX10_go_170 rfl (lv_at hl 1 rfl) ?_
        refine lv_aload_n hx hb dX10_go_171 rfl (lv_at hl 0 rfl) ?_
        refine r_gi S hE hw 34 iw10_X10_go rfl rfl (by decide) (hts _ mf135_X10_go) dX10_go_172 ?_
        obtain ⟨s13, gs13, h⟩ := oB_out h
        refine r_as S hE hw rfl rfl gs13 dX10_go_175 (fun H locs hw => ?_)
        refine lv_aload_n hx hb dX10_go_176 rfl (lv_at hl 0 rfl) ?_
        refine r_gr S hE hw 17 87 iw10_X10_go rfl rfl (by decide) rfl (hts _ mf59_X10_go) dX10_go_177 ?_
        refine lv_iload_n hx hb dX10_go_180 rfl (lv_at hl 1 rfl) ?_
        refine lv_aload_n hx hb dX10_go_181 rfl (lv_at hl 0 rfl) ?_
        refine r_gi S hE hw 31 iw10_X10_go rfl rfl (by decide) (hts _ mf132_X10_go) dX10_go_182 ?_
        refine lv_if_ne (tgt := 192) hx hb dX10_go_185 (by decide) (fun c14 => ?_) (fun c14 => ?_)
        · have h := if_f c14 h
          refine lv_iconst (v := 0) hx hb dX10_go_192 (by decide) ?_
          exact w_X10_go_193   S hr hlocks hE (fun σ x1 x2 x3 x4 x5  _ _ h _ _ _ hw hl => ih σ x1 x2 x3 x4 x5  h hw hl)  s13 x1 x2 x3 x4 x5 0 x1 h hw (lv_sub hl [0, 1, 2, 3, 4, 5] rfl)
        · have h := if_t c14 h
          refine lv_iconst (v := 1) hx hb dX10_go_188 (by decide) ?_
          refine lv_goto (tgt := 193) hx hb dX10_go_189 (by decide) ?_
          exact w_X10_go_193   S hr hlocks hE (fun σ x1 x2 x3 x4 x5  _ _ h _ _ _ hw hl => ih σ x1 x2 x3 x4 x5  h hw hl)  s13 x1 x2 x3 x4 x5 1 x1 h hw (lv_sub hl [0, 1, 2, 3, 4, 5] rfl)

def f_X10_go (σ : St) (p1 : Int32) (p2 : Int32) (p3 : Int32) (p4 : Int32) : Option (Int32 × St) := if (f_X10_isFlight σ p1) = 0 then (some ((-2), σ)) else (if (f_X10_in p2 0 2) = 0 then (some ((-2), σ)) else (if (f_X10_in p3 1 50) = 0 then (some ((-2), σ)) else (if (f_X10_in p4 1 12) = 0 then (some ((-2), σ)) else (Option.bind (aL σ 87 8 p1) fun v9 => if v9 = 0 then (Option.bind (aL σ 89 8 p1) fun v11 => if (v11 + p4) ≤ 60 then (f_X10_go_73 10000 σ p1 p2 p3 p4 0) else (some ((-4), σ))) else (some ((-3), σ))))))
set_option maxRecDepth 100000 in
set_option maxHeartbeats 4000000 in
theorem c_X10_go (l : Launch) (G : Gp) (A : Nat → Prop) (σ : St) (p1 : Int32) (p2 : Int32) (p3 : Int32) (p4 : Int32) {r : Int32} {σ' : St} (h : f_X10_go σ p1 p2 p3 p4 = some (r, σ')) : Ki l yX10_go wsX10_go 4 G A [.ref (ad G 72), .int p1, .int p2, .int p3, .int p4] σ r σ' := by
  unfold f_X10_go at h
  refine r_start (ws := wsX10_go) (d := 4) (by decide) rfl [.ref (ad G 72), .int p1, .int p2, .int p3, .int p4] (Nat.le_of_ble_eq_true rfl) ?_
  intro p e s m below meth c S hr hlocks hE hw ls hl
  have hl : lv_has ls 6 [(0, .ref (ad G 72)), (1, .int p1), (2, .int p2), (3, .int p3), (4, .int p4)] := hl
  obtain ⟨hx, hb, hml, hown, hts⟩ := id S
  refine lv_aload_n hx hb dX10_go_0 rfl (lv_at hl 0 rfl) ?_
  refine lv_iload_n hx hb dX10_go_1 rfl (lv_at hl 1 rfl) ?_
  refine r_cz (r_runV (k := 72) (ci := 10) (As := [.int p1]) (rest := []) S hE hw (c_X10_isFlight  l G A σ p1) (cwV 1 hts gX10_go_X10_isFlight rfl rfl rfl (by decide +kernel) ⟨Nat.le_of_ble_eq_true rfl, Nat.le_of_ble_eq_true rfl⟩) rfl rfl (by decide) rfl hl.1 rfl (Nat.le_of_ble_eq_true rfl) ⟨Nat.zero_le _, Nat.zero_le _⟩ dX10_go_2) hw (fun H locs hw hb1 => ?_)
  refine lv_if_eq (tgt := 38) hx hb dX10_go_5 (by decide) (fun c2 => ?_) (fun c2 => ?_)
  · have h := if_t c2 h
    refine lv_bipush (v := (-2)) hx hb dX10_go_38 (by decide) ?_
    obtain ⟨rfl, rfl⟩ := rt2 h
    exact r_iret S hr hlocks hw dX10_go_40
  · have h := if_f c2 h
    refine lv_iload_n hx hb dX10_go_8 rfl (lv_at hl 2 rfl) ?_
    refine lv_iconst (v := 0) hx hb dX10_go_9 (by decide) ?_
    refine lv_iconst (v := 2) hx hb dX10_go_10 (by decide) ?_
    refine r_cz (r_runS (As := [.int p2, .int 0, .int 2]) (rest := []) S hE hw (c_X10_in  l G A σ p2 0 2) (va_cwS 3 hts gX10_go_X10_in rfl rfl rfl (by decide +kernel) ⟨Nat.le_of_ble_eq_true rfl, Nat.le_of_ble_eq_true rfl⟩) rfl hl.1 rfl (Nat.le_of_ble_eq_true rfl) ⟨Nat.zero_le _, Nat.zero_le _⟩ dX10_go_11) hw (fun H locs hw hb3 => ?_)
    refine lv_if_eq (tgt := 38) hx hb dX10_go_14 (by decide) (fun c4 => ?_) (fun c4 => ?_)
    · have h := if_t c4 h
      refine lv_bipush (v := (-2)) hx hb dX10_go_38 (by decide) ?_
      obtain ⟨rfl, rfl⟩ := rt2 h
      exact r_iret S hr hlocks hw dX10_go_40
    · have h := if_f c4 h
      refine lv_iload_n hx hb dX10_go_17 rfl (lv_at hl 3 rfl) ?_
      refine lv_iconst (v := 1) hx hb dX10_go_18 (by decide) ?_
      refine lv_bipush (v := 50) hx hb dX10_go_19 (by decide) ?_
      refine r_cz (r_runS (As := [.int p3, .int 1, .int 50]) (rest := []) S hE hw (c_X10_in  l G A σ p3 1 50) (va_cwS 3 hts gX10_go_X10_in rfl rfl rfl (by decide +kernel) ⟨Nat.le_of_ble_eq_true rfl, Nat.le_of_ble_eq_true rfl⟩) rfl hl.1 rfl (Nat.le_of_ble_eq_true rfl) ⟨Nat.zero_le _, Nat.zero_le _⟩ dX10_go_21) hw (fun H locs hw hb5 => ?_)
      refine lv_if_eq (tgt := 38) hx hb dX10_go_24 (by decide) (fun c6 => ?_) (fun c6 => ?_)
      · have h := if_t c6 h
        refine lv_bipush (v := (-2)) hx hb dX10_go_38 (by decide) ?_
        obtain ⟨rfl, rfl⟩ := rt2 h
        exact r_iret S hr hlocks hw dX10_go_40
      · have h := if_f c6 h
        refine lv_iload hx hb dX10_go_27 (lv_at hl 4 rfl) ?_
        refine lv_iconst (v := 1) hx hb dX10_go_29 (by decide) ?_
        refine lv_bipush (v := 12) hx hb dX10_go_30 (by decide) ?_
        refine r_cz (r_runS (As := [.int p4, .int 1, .int 12]) (rest := []) S hE hw (c_X10_in  l G A σ p4 1 12) (va_cwS 3 hts gX10_go_X10_in rfl rfl rfl (by decide +kernel) ⟨Nat.le_of_ble_eq_true rfl, Nat.le_of_ble_eq_true rfl⟩) rfl hl.1 rfl (Nat.le_of_ble_eq_true rfl) ⟨Nat.zero_le _, Nat.zero_le _⟩ dX10_go_32) hw (fun H locs hw hb7 => ?_)
        refine lv_if_ne (tgt := 41) hx hb dX10_go_35 (by decide) (fun c8 => ?_) (fun c8 => ?_)
        · have h := if_f c8 h
          refine lv_aload_n hx hb dX10_go_41 rfl (lv_at hl 0 rfl) ?_
          refine r_gr S hE hw 17 87 iw10_X10_go rfl rfl (by decide) rfl (hts _ mf59_X10_go) dX10_go_42 ?_
          refine lv_iload_n hx hb dX10_go_45 rfl (lv_at hl 1 rfl) ?_
          obtain ⟨v9, gv9, h⟩ := oB_out h
          refine r_zl S hE hw rfl rfl gv9 dX10_go_46 ?_
          refine lv_if_eq (tgt := 53) hx hb dX10_go_47 (by decide) (fun c10 => ?_) (fun c10 => ?_)
          · have h := if_t c10 h
            refine lv_aload_n hx hb dX10_go_53 rfl (lv_at hl 0 rfl) ?_
            refine r_gr S hE hw 19 89 iw10_X10_go rfl rfl (by decide) rfl (hts _ mf66_X10_go) dX10_go_54 ?_
            refine lv_iload_n hx hb dX10_go_57 rfl (lv_at hl 1 rfl) ?_
            obtain ⟨v11, gv11, h⟩ := oB_out h
            refine r_al S hE hw rfl rfl gv11 dX10_go_58 ?_
            refine lv_iload hx hb dX10_go_59 (lv_at hl 4 rfl) ?_
            refine lv_iadd hx hb dX10_go_61 ?_
            refine lv_bipush (v := 60) hx hb dX10_go_62 (by decide) ?_
            refine lv_icmp_le (tgt := 70) hx hb dX10_go_64 (by decide) (fun c12 => ?_) (fun c12 => ?_)
            · have h := if_t c12 h
              refine lv_iconst (v := 0) hx hb dX10_go_70 (by decide) ?_
              refine lv_istore (lv' := [(5, .int 0), (0, .ref (ad G 72)), (1, .int p1), (2, .int p2), (3, .int p3), (4, .int p4)]) hx hb dX10_go_71 hl (by decide) rfl (fun ls hl => ?_)
              exact w_X10_go_73   S hr hlocks hE  10000 σ p1 p2 p3 p4 0 h hw (lv_sub hl [1, 2, 3, 4, 5, 0] rfl)
            · have h := if_f c12 h
              refine lv_bipush (v := (-4)) hx hb dX10_go_67 (by decide) ?_
              obtain ⟨rfl, rfl⟩ := rt2 h
              exact r_iret S hr hlocks hw dX10_go_69
          · have h := if_f c10 h
            refine lv_bipush (v := (-3)) hx hb dX10_go_50 (by decide) ?_
            obtain ⟨rfl, rfl⟩ := rt2 h
            exact r_iret S hr hlocks hw dX10_go_52
        · have h := if_t c8 h
          refine lv_bipush (v := (-2)) hx hb dX10_go_38 (by decide) ?_
          obtain ⟨rfl, rfl⟩ := rt2 h
          exact r_iret S hr hlocks hw dX10_go_40


theorem mf35_X10_about : Cond.fieldLink RX10 35 "GasVoyagesModel" "fx" "[I" ∈ wsX10_about := by decide +kernel
set_option maxRecDepth 20000 in
theorem iw10_X10_about : ∀ w ∈ u_ws RX10 TX10 43, w ∈ wsX10_about := by decide +kernel
theorem mf38_X10_about : Cond.fieldLink RX10 38 "GasVoyagesModel" "fy" "[I" ∈ wsX10_about := by decide +kernel
theorem mf41_X10_about : Cond.fieldLink RX10 41 "GasVoyagesModel" "fl" "[I" ∈ wsX10_about := by decide +kernel
theorem mf50_X10_about : Cond.fieldLink RX10 50 "GasVoyagesModel" "gas" "[I" ∈ wsX10_about := by decide +kernel
theorem mf53_X10_about : Cond.fieldLink RX10 53 "GasVoyagesModel" "ballast" "[I" ∈ wsX10_about := by decide +kernel
theorem mf44_X10_about : Cond.fieldLink RX10 44 "GasVoyagesModel" "ft" "[I" ∈ wsX10_about := by decide +kernel
theorem mf59_X10_about : Cond.fieldLink RX10 59 "GasVoyagesModel" "landed" "[Z" ∈ wsX10_about := by decide +kernel
theorem mf66_X10_about : Cond.fieldLink RX10 66 "GasVoyagesModel" "entries" "[I" ∈ wsX10_about := by decide +kernel
theorem mf20_X10_about : Cond.fieldLink RX10 20 "GasVoyagesModel" "density" "[I" ∈ wsX10_about := by decide +kernel
theorem mf26_X10_about : Cond.fieldLink RX10 26 "GasVoyagesModel" "warmth" "[I" ∈ wsX10_about := by decide +kernel
theorem mf47_X10_about : Cond.fieldLink RX10 47 "GasVoyagesModel" "load" "[I" ∈ wsX10_about := by decide +kernel
theorem mf56_X10_about : Cond.fieldLink RX10 56 "GasVoyagesModel" "gone" "[I" ∈ wsX10_about := by decide +kernel
theorem mc163_X10_about : Cond.constant RX10 163 (-100000) ∈ wsX10_about := by decide +kernel
def f_X10_about (σ : St) (p1 : Int32) (p2 : Int32) : Option Int32 := if (f_X10_isFlight σ p1) = 0 then (some (-100000)) else (if p2 = 0 then (Option.bind (aL σ 79 8 p1) fun v4 => some v4) else (if p2 = 1 then (Option.bind (aL σ 80 8 p1) fun v6 => some v6) else (if p2 = 2 then (Option.bind (aL σ 81 8 p1) fun v8 => some v8) else (if p2 = 3 then (Option.bind (aL σ 84 8 p1) fun v10 => some v10) else (if p2 = 4 then (Option.bind (aL σ 85 8 p1) fun v12 => some v12) else (if p2 = 5 then (Option.bind (aL σ 82 8 p1) fun v14 => some v14) else (if p2 = 6 then (Option.bind (aL σ 87 8 p1) fun v16 => if v16 = 0 then (some 0) else (some 1)) else (if p2 = 7 then (Option.bind (aL σ 89 8 p1) fun v19 => some v19) else (if p2 = 8 then (Option.bind (aL σ 84 8 p1) fun v21 => Option.bind (aL σ 81 8 p1) fun v22 => Option.bind (aL σ 74 8 v22) fun v23 => Option.bind (aL σ 82 8 p1) fun v24 => Option.bind (aL σ 76 24 (v24 - v24 / 24 * 24)) fun v25 => Option.bind (aL σ 83 8 p1) fun v26 => Option.bind (aL σ 85 8 p1) fun v27 => some ((v21 * (v23 + v25)) - (10 * (v26 + v27)))) else (if p2 = 9 then (Option.bind (aL σ 86 8 p1) fun v29 => some v29) else (some (-100000))))))))))))
set_option maxRecDepth 100000 in
set_option maxHeartbeats 4000000 in
theorem c_X10_about (l : Launch) (G : Gp) (A : Nat → Prop) (σ : St) (p1 : Int32) (p2 : Int32) {r : Int32} (h : f_X10_about σ p1 p2 = some r) : Ki l yX10_about wsX10_about 2 G A [.ref (ad G 72), .int p1, .int p2] σ r σ := by
  unfold f_X10_about at h
  refine r_start (ws := wsX10_about) (d := 2) (by decide) rfl [.ref (ad G 72), .int p1, .int p2] (Nat.le_of_ble_eq_true rfl) ?_
  intro p e s m below meth c S hr hlocks hE hw ls hl
  have hl : lv_has ls 3 [(0, .ref (ad G 72)), (1, .int p1), (2, .int p2)] := hl
  obtain ⟨hx, hb, hml, hown, hts⟩ := id S
  refine lv_aload_n hx hb dX10_about_0 rfl (lv_at hl 0 rfl) ?_
  refine lv_iload_n hx hb dX10_about_1 rfl (lv_at hl 1 rfl) ?_
  refine r_cz (r_runV (k := 72) (ci := 10) (As := [.int p1]) (rest := []) S hE hw (c_X10_isFlight  l G A σ p1) (cwV 1 hts gX10_about_X10_isFlight rfl rfl rfl (by decide +kernel) ⟨Nat.le_of_ble_eq_true rfl, Nat.le_of_ble_eq_true rfl⟩) rfl rfl (by decide) rfl hl.1 rfl (Nat.le_of_ble_eq_true rfl) ⟨Nat.zero_le _, Nat.zero_le _⟩ dX10_about_2) hw (fun H locs hw hb1 => ?_)
  refine lv_if_ne (tgt := 11) hx hb dX10_about_5 (by decide) (fun c2 => ?_) (fun c2 => ?_)
  · have h := if_f c2 h
    refine lv_iload_n hx hb dX10_about_11 rfl (lv_at hl 2 rfl) ?_
    by_cases c3 : p2 = 0
    · have h := if_t c3 h
      refine lv_tableIn (off := 56) (tgt := 68) hx hb dX10_about_12 (by rw [c3]; decide) (by rw [c3]; decide) (by rw [c3]; rfl) (by decide) ?_
      refine lv_aload_n hx hb dX10_about_68 rfl (lv_at hl 0 rfl) ?_
      refine r_gr S hE hw 9 79 iw10_X10_about rfl rfl (by decide) rfl (hts _ mf35_X10_about) dX10_about_69 ?_
      refine lv_iload_n hx hb dX10_about_72 rfl (lv_at hl 1 rfl) ?_
      obtain ⟨v4, gv4, h⟩ := oB_out h
      refine r_al S hE hw rfl rfl gv4 dX10_about_73 ?_
      obtain rfl := Option.some.inj h
      exact r_iret S hr hlocks hw dX10_about_74
    have h := if_f c3 h
    by_cases c5 : p2 = 1
    · have h := if_t c5 h
      refine lv_tableIn (off := 63) (tgt := 75) hx hb dX10_about_12 (by rw [c5]; decide) (by rw [c5]; decide) (by rw [c5]; rfl) (by decide) ?_
      refine lv_aload_n hx hb dX10_about_75 rfl (lv_at hl 0 rfl) ?_
      refine r_gr S hE hw 10 80 iw10_X10_about rfl rfl (by decide) rfl (hts _ mf38_X10_about) dX10_about_76 ?_
      refine lv_iload_n hx hb dX10_about_79 rfl (lv_at hl 1 rfl) ?_
      obtain ⟨v6, gv6, h⟩ := oB_out h
      refine r_al S hE hw rfl rfl gv6 dX10_about_80 ?_
      obtain rfl := Option.some.inj h
      exact r_iret S hr hlocks hw dX10_about_81
    have h := if_f c5 h
    by_cases c7 : p2 = 2
    · have h := if_t c7 h
      refine lv_tableIn (off := 70) (tgt := 82) hx hb dX10_about_12 (by rw [c7]; decide) (by rw [c7]; decide) (by rw [c7]; rfl) (by decide) ?_
      refine lv_aload_n hx hb dX10_about_82 rfl (lv_at hl 0 rfl) ?_
      refine r_gr S hE hw 11 81 iw10_X10_about rfl rfl (by decide) rfl (hts _ mf41_X10_about) dX10_about_83 ?_
      refine lv_iload_n hx hb dX10_about_86 rfl (lv_at hl 1 rfl) ?_
      obtain ⟨v8, gv8, h⟩ := oB_out h
      refine r_al S hE hw rfl rfl gv8 dX10_about_87 ?_
      obtain rfl := Option.some.inj h
      exact r_iret S hr hlocks hw dX10_about_88
    have h := if_f c7 h
    by_cases c9 : p2 = 3
    · have h := if_t c9 h
      refine lv_tableIn (off := 77) (tgt := 89) hx hb dX10_about_12 (by rw [c9]; decide) (by rw [c9]; decide) (by rw [c9]; rfl) (by decide) ?_
      refine lv_aload_n hx hb dX10_about_89 rfl (lv_at hl 0 rfl) ?_
      refine r_gr S hE hw 14 84 iw10_X10_about rfl rfl (by decide) rfl (hts _ mf50_X10_about) dX10_about_90 ?_
      refine lv_iload_n hx hb dX10_about_93 rfl (lv_at hl 1 rfl) ?_
      obtain ⟨v10, gv10, h⟩ := oB_out h
      refine r_al S hE hw rfl rfl gv10 dX10_about_94 ?_
      obtain rfl := Option.some.inj h
      exact r_iret S hr hlocks hw dX10_about_95
    have h := if_f c9 h
    by_cases c11 : p2 = 4
    · have h := if_t c11 h
      refine lv_tableIn (off := 84) (tgt := 96) hx hb dX10_about_12 (by rw [c11]; decide) (by rw [c11]; decide) (by rw [c11]; rfl) (by decide) ?_
      refine lv_aload_n hx hb dX10_about_96 rfl (lv_at hl 0 rfl) ?_
      refine r_gr S hE hw 15 85 iw10_X10_about rfl rfl (by decide) rfl (hts _ mf53_X10_about) dX10_about_97 ?_
      refine lv_iload_n hx hb dX10_about_100 rfl (lv_at hl 1 rfl) ?_
      obtain ⟨v12, gv12, h⟩ := oB_out h
      refine r_al S hE hw rfl rfl gv12 dX10_about_101 ?_
      obtain rfl := Option.some.inj h
      exact r_iret S hr hlocks hw dX10_about_102
    have h := if_f c11 h
    by_cases c13 : p2 = 5
    · have h := if_t c13 h
      refine lv_tableIn (off := 91) (tgt := 103) hx hb dX10_about_12 (by rw [c13]; decide) (by rw [c13]; decide) (by rw [c13]; rfl) (by decide) ?_
      refine lv_aload_n hx hb dX10_about_103 rfl (lv_at hl 0 rfl) ?_
      refine r_gr S hE hw 12 82 iw10_X10_about rfl rfl (by decide) rfl (hts _ mf44_X10_about) dX10_about_104 ?_
      refine lv_iload_n hx hb dX10_about_107 rfl (lv_at hl 1 rfl) ?_
      obtain ⟨v14, gv14, h⟩ := oB_out h
      refine r_al S hE hw rfl rfl gv14 dX10_about_108 ?_
      obtain rfl := Option.some.inj h
      exact r_iret S hr hlocks hw dX10_about_109
    have h := if_f c13 h
    by_cases c15 : p2 = 6
    · have h := if_t c15 h
      refine lv_tableIn (off := 98) (tgt := 110) hx hb dX10_about_12 (by rw [c15]; decide) (by rw [c15]; decide) (by rw [c15]; rfl) (by decide) ?_
      refine lv_aload_n hx hb dX10_about_110 rfl (lv_at hl 0 rfl) ?_
      refine r_gr S hE hw 17 87 iw10_X10_about rfl rfl (by decide) rfl (hts _ mf59_X10_about) dX10_about_111 ?_
      refine lv_iload_n hx hb dX10_about_114 rfl (lv_at hl 1 rfl) ?_
      obtain ⟨v16, gv16, h⟩ := oB_out h
      refine r_zl S hE hw rfl rfl gv16 dX10_about_115 ?_
      refine lv_if_eq (tgt := 123) hx hb dX10_about_116 (by decide) (fun c17 => ?_) (fun c17 => ?_)
      · have h := if_t c17 h
        refine lv_iconst (v := 0) hx hb dX10_about_123 (by decide) ?_
        obtain rfl := Option.some.inj h
        exact r_iret S hr hlocks hw dX10_about_124
      · have h := if_f c17 h
        refine lv_iconst (v := 1) hx hb dX10_about_119 (by decide) ?_
        refine lv_goto (tgt := 124) hx hb dX10_about_120 (by decide) ?_
        obtain rfl := Option.some.inj h
        exact r_iret S hr hlocks hw dX10_about_124
    have h := if_f c15 h
    by_cases c18 : p2 = 7
    · have h := if_t c18 h
      refine lv_tableIn (off := 113) (tgt := 125) hx hb dX10_about_12 (by rw [c18]; decide) (by rw [c18]; decide) (by rw [c18]; rfl) (by decide) ?_
      refine lv_aload_n hx hb dX10_about_125 rfl (lv_at hl 0 rfl) ?_
      refine r_gr S hE hw 19 89 iw10_X10_about rfl rfl (by decide) rfl (hts _ mf66_X10_about) dX10_about_126 ?_
      refine lv_iload_n hx hb dX10_about_129 rfl (lv_at hl 1 rfl) ?_
      obtain ⟨v19, gv19, h⟩ := oB_out h
      refine r_al S hE hw rfl rfl gv19 dX10_about_130 ?_
      obtain rfl := Option.some.inj h
      exact r_iret S hr hlocks hw dX10_about_131
    have h := if_f c18 h
    by_cases c20 : p2 = 8
    · have h := if_t c20 h
      refine lv_tableIn (off := 120) (tgt := 132) hx hb dX10_about_12 (by rw [c20]; decide) (by rw [c20]; decide) (by rw [c20]; rfl) (by decide) ?_
      refine lv_aload_n hx hb dX10_about_132 rfl (lv_at hl 0 rfl) ?_
      refine r_gr S hE hw 14 84 iw10_X10_about rfl rfl (by decide) rfl (hts _ mf50_X10_about) dX10_about_133 ?_
      refine lv_iload_n hx hb dX10_about_136 rfl (lv_at hl 1 rfl) ?_
      obtain ⟨v21, gv21, h⟩ := oB_out h
      refine r_al S hE hw rfl rfl gv21 dX10_about_137 ?_
      refine lv_aload_n hx hb dX10_about_138 rfl (lv_at hl 0 rfl) ?_
      refine r_gr S hE hw 3 74 iw10_X10_about rfl rfl (by decide) rfl (hts _ mf20_X10_about) dX10_about_139 ?_
      refine lv_aload_n hx hb dX10_about_142 rfl (lv_at hl 0 rfl) ?_
      refine r_gr S hE hw 11 81 iw10_X10_about rfl rfl (by decide) rfl (hts _ mf41_X10_about) dX10_about_143 ?_
      refine lv_iload_n hx hb dX10_about_146 rfl (lv_at hl 1 rfl) ?_
      obtain ⟨v22, gv22, h⟩ := oB_out h
      refine r_al S hE hw rfl rfl gv22 dX10_about_147 ?_
      obtain ⟨v23, gv23, h⟩ := oB_out h
      refine r_al S hE hw rfl rfl gv23 dX10_about_148 ?_
      refine lv_aload_n hx hb dX10_about_149 rfl (lv_at hl 0 rfl) ?_
      refine r_gr S hE hw 5 76 iw10_X10_about rfl rfl (by decide) rfl (hts _ mf26_X10_about) dX10_about_150 ?_
      refine lv_aload_n hx hb dX10_about_153 rfl (lv_at hl 0 rfl) ?_
      refine r_gr S hE hw 12 82 iw10_X10_about rfl rfl (by decide) rfl (hts _ mf44_X10_about) dX10_about_154 ?_
      refine lv_iload_n hx hb dX10_about_157 rfl (lv_at hl 1 rfl) ?_
      obtain ⟨v24, gv24, h⟩ := oB_out h
      refine r_al S hE hw rfl rfl gv24 dX10_about_158 ?_
      refine lv_bipush (v := 24) hx hb dX10_about_159 (by decide) ?_
      refine lv_irem hx hb dX10_about_161 (by decide) ?_
      obtain ⟨v25, gv25, h⟩ := oB_out h
      refine r_al S hE hw rfl rfl gv25 dX10_about_162 ?_
      refine lv_iadd hx hb dX10_about_163 ?_
      refine lv_imul hx hb dX10_about_164 ?_
      refine lv_bipush (v := 10) hx hb dX10_about_165 (by decide) ?_
      refine lv_aload_n hx hb dX10_about_167 rfl (lv_at hl 0 rfl) ?_
      refine r_gr S hE hw 13 83 iw10_X10_about rfl rfl (by decide) rfl (hts _ mf47_X10_about) dX10_about_168 ?_
      refine lv_iload_n hx hb dX10_about_171 rfl (lv_at hl 1 rfl) ?_
      obtain ⟨v26, gv26, h⟩ := oB_out h
      refine r_al S hE hw rfl rfl gv26 dX10_about_172 ?_
      refine lv_aload_n hx hb dX10_about_173 rfl (lv_at hl 0 rfl) ?_
      refine r_gr S hE hw 15 85 iw10_X10_about rfl rfl (by decide) rfl (hts _ mf53_X10_about) dX10_about_174 ?_
      refine lv_iload_n hx hb dX10_about_177 rfl (lv_at hl 1 rfl) ?_
      obtain ⟨v27, gv27, h⟩ := oB_out h
      refine r_al S hE hw rfl rfl gv27 dX10_about_178 ?_
      refine lv_iadd hx hb dX10_about_179 ?_
      refine lv_imul hx hb dX10_about_180 ?_
      refine lv_isub hx hb dX10_about_181 ?_
      obtain rfl := Option.some.inj h
      exact r_iret S hr hlocks hw dX10_about_182
    have h := if_f c20 h
    by_cases c28 : p2 = 9
    · have h := if_t c28 h
      refine lv_tableIn (off := 171) (tgt := 183) hx hb dX10_about_12 (by rw [c28]; decide) (by rw [c28]; decide) (by rw [c28]; rfl) (by decide) ?_
      refine lv_aload_n hx hb dX10_about_183 rfl (lv_at hl 0 rfl) ?_
      refine r_gr S hE hw 16 86 iw10_X10_about rfl rfl (by decide) rfl (hts _ mf56_X10_about) dX10_about_184 ?_
      refine lv_iload_n hx hb dX10_about_187 rfl (lv_at hl 1 rfl) ?_
      obtain ⟨v29, gv29, h⟩ := oB_out h
      refine r_al S hE hw rfl rfl gv29 dX10_about_188 ?_
      obtain rfl := Option.some.inj h
      exact r_iret S hr hlocks hw dX10_about_189
    have h := if_f c28 h
    refine lv_tableOut (tgt := 190) hx hb dX10_about_12 (sw10_out c3 c5 c7 c9 c11 c13 c15 c18 c20 c28) (by decide) ?_
    refine lv_ldc (v := (-100000)) hx hb hown (hts _ mc163_X10_about) dX10_about_190 ?_
    obtain rfl := Option.some.inj h
    exact r_iret S hr hlocks hw dX10_about_192
  · have h := if_t c2 h
    refine lv_ldc (v := (-100000)) hx hb hown (hts _ mc163_X10_about) dX10_about_8 ?_
    obtain rfl := Option.some.inj h
    exact r_iret S hr hlocks hw dX10_about_10


def f_X10_distanceOf_14 : Nat → St → Int32 → Int32 → Option Int32
  | 0, _, _, _ => none
  | n + 1, σ, x2, x3 => if x2 < ((x3 + 1) * (x3 + 1)) then (some x3) else (f_X10_distanceOf_14 n σ x2 (x3 + 1))
set_option maxRecDepth 100000 in
set_option maxHeartbeats 4000000 in
theorem w_X10_distanceOf_14 {p : Program} {l : Launch} {e : Env} {s : State} {m : MethodId} {args : Array Value} {below : List Frame} {meth : Method} {c : Code} {G : Gp} {A : Nat → Prop} (S : CallFix p m c cX10_distanceOf 4 s args wsX10_distanceOf RX10) (hr : meth.sig.returnType = (some .int)) (hlocks : meth.locks = false) (hE : Ev G A s) (n : Nat) (σ : St) (x2 : Int32) (x3 : Int32) {r : Int32} (h : f_X10_distanceOf_14   n σ x2 x3 = some r) {H : Heap} {locs : List Loc} {ls : Array Slot} (hw : Ww G A σ s H locs) (hl : lv_has ls 4 [(2, .int x2), (3, .int x3)]) : W p l e (rmd 0) s m args below meth c H locs 0 0 (Qi below args s G A r σ) (F0 m 14 ls []) := by
  obtain ⟨hx, hb, hml, hown, hts⟩ := id S
  induction n generalizing σ x2 x3 r  H locs ls with
  | zero => cases h
  | succ n ih =>
    unfold f_X10_distanceOf_14 at h
    refine lv_iload_n hx hb dX10_distanceOf_14 rfl (lv_at hl 1 rfl) ?_
    refine lv_iconst (v := 1) hx hb dX10_distanceOf_15 (by decide) ?_
    refine lv_iadd hx hb dX10_distanceOf_16 ?_
    refine lv_iload_n hx hb dX10_distanceOf_17 rfl (lv_at hl 1 rfl) ?_
    refine lv_iconst (v := 1) hx hb dX10_distanceOf_18 (by decide) ?_
    refine lv_iadd hx hb dX10_distanceOf_19 ?_
    refine lv_imul hx hb dX10_distanceOf_20 ?_
    refine lv_iload_n hx hb dX10_distanceOf_21 rfl (lv_at hl 0 rfl) ?_
    refine lv_icmp_gt (tgt := 31) hx hb dX10_distanceOf_22 (by decide) (fun c1 => ?_) (fun c1 => ?_)
    · have h := if_t c1 h
      refine lv_iload_n hx hb dX10_distanceOf_31 rfl (lv_at hl 1 rfl) ?_
      obtain rfl := Option.some.inj h
      exact r_iret S hr hlocks hw dX10_distanceOf_32
    · have h := if_f c1 h
      refine lv_iinc (v := x3 + 1) (lv' := [(3, .int (x3 + 1)), (2, .int x2)]) hx hb dX10_distanceOf_25 hl (k := 1) rfl rfl (by decide) rfl (fun ls hl => ?_)
      refine lv_goto (tgt := 14) hx hb dX10_distanceOf_28 (by decide) ?_
      exact ih σ x2 (x3 + 1) h hw (lv_sub hl [1, 0] rfl)

def f_X10_distanceOf (σ : St) (p0 : Int32) (p1 : Int32) : Option Int32 := f_X10_distanceOf_14 10000 σ (10000 * ((p0 * p0) + (p1 * p1))) 0
set_option maxRecDepth 100000 in
set_option maxHeartbeats 4000000 in
theorem c_X10_distanceOf (l : Launch) (G : Gp) (A : Nat → Prop) (σ : St) (p0 : Int32) (p1 : Int32) {r : Int32} (h : f_X10_distanceOf σ p0 p1 = some r) : Ki l yX10_distanceOf wsX10_distanceOf 0 G A [.int p0, .int p1] σ r σ := by
  unfold f_X10_distanceOf at h
  refine r_start (ws := wsX10_distanceOf) (d := 0) (by decide) rfl [.int p0, .int p1] (Nat.le_of_ble_eq_true rfl) ?_
  intro p e s m below meth c S hr hlocks hE hw ls hl
  have hl : lv_has ls 4 [(0, .int p0), (1, .int p1)] := hl
  obtain ⟨hx, hb, hml, hown, hts⟩ := id S
  refine lv_sipush (v := 10000) hx hb dX10_distanceOf_0 (by decide) ?_
  refine lv_iload_n hx hb dX10_distanceOf_3 rfl (lv_at hl 0 rfl) ?_
  refine lv_iload_n hx hb dX10_distanceOf_4 rfl (lv_at hl 0 rfl) ?_
  refine lv_imul hx hb dX10_distanceOf_5 ?_
  refine lv_iload_n hx hb dX10_distanceOf_6 rfl (lv_at hl 1 rfl) ?_
  refine lv_iload_n hx hb dX10_distanceOf_7 rfl (lv_at hl 1 rfl) ?_
  refine lv_imul hx hb dX10_distanceOf_8 ?_
  refine lv_iadd hx hb dX10_distanceOf_9 ?_
  refine lv_imul hx hb dX10_distanceOf_10 ?_
  refine lv_istore_n (lv' := [(2, .int (10000 * ((p0 * p0) + (p1 * p1)))), (0, .int p0), (1, .int p1)]) hx hb dX10_distanceOf_11 rfl hl (by decide) rfl (fun ls hl => ?_)
  refine lv_iconst (v := 0) hx hb dX10_distanceOf_12 (by decide) ?_
  refine lv_istore_n (lv' := [(3, .int 0), (2, .int (10000 * ((p0 * p0) + (p1 * p1)))), (0, .int p0), (1, .int p1)]) hx hb dX10_distanceOf_13 rfl hl (by decide) rfl (fun ls hl => ?_)
  exact w_X10_distanceOf_14   S hr hlocks hE  10000 σ (10000 * ((p0 * p0) + (p1 * p1))) 0 h hw (lv_sub hl [1, 0] rfl)


theorem mf35_X10_distanceFlown : Cond.fieldLink RX10 35 "GasVoyagesModel" "fx" "[I" ∈ wsX10_distanceFlown := by decide +kernel
set_option maxRecDepth 20000 in
theorem iw10_X10_distanceFlown : ∀ w ∈ u_ws RX10 TX10 43, w ∈ wsX10_distanceFlown := by decide +kernel
theorem mf69_X10_distanceFlown : Cond.fieldLink RX10 69 "GasVoyagesModel" "logCell" "[I" ∈ wsX10_distanceFlown := by decide +kernel
theorem mf38_X10_distanceFlown : Cond.fieldLink RX10 38 "GasVoyagesModel" "fy" "[I" ∈ wsX10_distanceFlown := by decide +kernel
def f_X10_distanceFlown (σ : St) (p1 : Int32) : Option Int32 := Option.bind (aL σ 79 8 p1) fun v1 => Option.bind (aL σ 90 488 (61 * p1)) fun v2 => Option.bind (aL σ 80 8 p1) fun v3 => Option.bind (aL σ 90 488 (61 * p1)) fun v4 => Option.bind (f_X10_distanceOf σ (v1 - (v2 - v2 / 24 * 24)) (v3 - (v4 / 24))) fun v5 => some v5
set_option maxRecDepth 100000 in
set_option maxHeartbeats 4000000 in
theorem c_X10_distanceFlown (l : Launch) (G : Gp) (A : Nat → Prop) (σ : St) (p1 : Int32) {r : Int32} (h : f_X10_distanceFlown σ p1 = some r) : Ki l yX10_distanceFlown wsX10_distanceFlown 1 G A [.ref (ad G 72), .int p1] σ r σ := by
  unfold f_X10_distanceFlown at h
  refine r_start (ws := wsX10_distanceFlown) (d := 1) (by decide) rfl [.ref (ad G 72), .int p1] (Nat.le_of_ble_eq_true rfl) ?_
  intro p e s m below meth c S hr hlocks hE hw ls hl
  have hl : lv_has ls 2 [(0, .ref (ad G 72)), (1, .int p1)] := hl
  obtain ⟨hx, hb, hml, hown, hts⟩ := id S
  refine lv_aload_n hx hb dX10_distanceFlown_0 rfl (lv_at hl 0 rfl) ?_
  refine r_gr S hE hw 9 79 iw10_X10_distanceFlown rfl rfl (by decide) rfl (hts _ mf35_X10_distanceFlown) dX10_distanceFlown_1 ?_
  refine lv_iload_n hx hb dX10_distanceFlown_4 rfl (lv_at hl 1 rfl) ?_
  obtain ⟨v1, gv1, h⟩ := oB_out h
  refine r_al S hE hw rfl rfl gv1 dX10_distanceFlown_5 ?_
  refine lv_aload_n hx hb dX10_distanceFlown_6 rfl (lv_at hl 0 rfl) ?_
  refine r_gr S hE hw 20 90 iw10_X10_distanceFlown rfl rfl (by decide) rfl (hts _ mf69_X10_distanceFlown) dX10_distanceFlown_7 ?_
  refine lv_bipush (v := 61) hx hb dX10_distanceFlown_10 (by decide) ?_
  refine lv_iload_n hx hb dX10_distanceFlown_12 rfl (lv_at hl 1 rfl) ?_
  refine lv_imul hx hb dX10_distanceFlown_13 ?_
  obtain ⟨v2, gv2, h⟩ := oB_out h
  refine r_al S hE hw rfl rfl gv2 dX10_distanceFlown_14 ?_
  refine lv_bipush (v := 24) hx hb dX10_distanceFlown_15 (by decide) ?_
  refine lv_irem hx hb dX10_distanceFlown_17 (by decide) ?_
  refine lv_isub hx hb dX10_distanceFlown_18 ?_
  refine lv_aload_n hx hb dX10_distanceFlown_19 rfl (lv_at hl 0 rfl) ?_
  refine r_gr S hE hw 10 80 iw10_X10_distanceFlown rfl rfl (by decide) rfl (hts _ mf38_X10_distanceFlown) dX10_distanceFlown_20 ?_
  refine lv_iload_n hx hb dX10_distanceFlown_23 rfl (lv_at hl 1 rfl) ?_
  obtain ⟨v3, gv3, h⟩ := oB_out h
  refine r_al S hE hw rfl rfl gv3 dX10_distanceFlown_24 ?_
  refine lv_aload_n hx hb dX10_distanceFlown_25 rfl (lv_at hl 0 rfl) ?_
  refine r_gr S hE hw 20 90 iw10_X10_distanceFlown rfl rfl (by decide) rfl (hts _ mf69_X10_distanceFlown) dX10_distanceFlown_26 ?_
  refine lv_bipush (v := 61) hx hb dX10_distanceFlown_29 (by decide) ?_
  refine lv_iload_n hx hb dX10_distanceFlown_31 rfl (lv_at hl 1 rfl) ?_
  refine lv_imul hx hb dX10_distanceFlown_32 ?_
  obtain ⟨v4, gv4, h⟩ := oB_out h
  refine r_al S hE hw rfl rfl gv4 dX10_distanceFlown_33 ?_
  refine lv_bipush (v := 24) hx hb dX10_distanceFlown_34 (by decide) ?_
  refine lv_idiv hx hb dX10_distanceFlown_36 (by decide) ?_
  refine lv_isub hx hb dX10_distanceFlown_37 ?_
  obtain ⟨v5, gv5, h⟩ := oB_out h
  refine r_ci (r_runS (As := [.int (v1 - (v2 - v2 / 24 * 24)), .int (v3 - (v4 / 24))]) (rest := []) S hE hw (c_X10_distanceOf  l G A σ (v1 - (v2 - v2 / 24 * 24)) (v3 - (v4 / 24)) gv5) (va_cwS 2 hts gX10_distanceFlown_X10_distanceOf rfl rfl rfl (by decide +kernel) ⟨Nat.le_of_ble_eq_true rfl, Nat.le_of_ble_eq_true rfl⟩) rfl hl.1 rfl (Nat.le_of_ble_eq_true rfl) ⟨Nat.zero_le _, Nat.zero_le _⟩ dX10_distanceFlown_38) hw (fun H locs hw => ?_)
  obtain rfl := Option.some.inj h
  exact r_iret S hr hlocks hw dX10_distanceFlown_41


def f_X10_distance (σ : St) (p1 : Int32) : Option Int32 := if (f_X10_isFlight σ p1) = 0 then (some (-2)) else (Option.bind (f_X10_distanceFlown σ p1) fun v3 => some v3)
set_option maxRecDepth 100000 in
set_option maxHeartbeats 4000000 in
theorem c_X10_distance (l : Launch) (G : Gp) (A : Nat → Prop) (σ : St) (p1 : Int32) {r : Int32} (h : f_X10_distance σ p1 = some r) : Ki l yX10_distance wsX10_distance 2 G A [.ref (ad G 72), .int p1] σ r σ := by
  unfold f_X10_distance at h
  refine r_start (ws := wsX10_distance) (d := 2) (by decide) rfl [.ref (ad G 72), .int p1] (Nat.le_of_ble_eq_true rfl) ?_
  intro p e s m below meth c S hr hlocks hE hw ls hl
  have hl : lv_has ls 2 [(0, .ref (ad G 72)), (1, .int p1)] := hl
  obtain ⟨hx, hb, hml, hown, hts⟩ := id S
  refine lv_aload_n hx hb dX10_distance_0 rfl (lv_at hl 0 rfl) ?_
  refine lv_iload_n hx hb dX10_distance_1 rfl (lv_at hl 1 rfl) ?_
  refine r_cz (r_runV (k := 72) (ci := 10) (As := [.int p1]) (rest := []) S hE hw (c_X10_isFlight  l G A σ p1) (cwV 1 hts gX10_distance_X10_isFlight rfl rfl rfl (by decide +kernel) ⟨Nat.le_of_ble_eq_true rfl, Nat.le_of_ble_eq_true rfl⟩) rfl rfl (by decide) rfl hl.1 rfl (Nat.le_of_ble_eq_true rfl) ⟨Nat.zero_le _, Nat.zero_le _⟩ dX10_distance_2) hw (fun H locs hw hb1 => ?_)
  refine lv_if_eq (tgt := 16) hx hb dX10_distance_5 (by decide) (fun c2 => ?_) (fun c2 => ?_)
  · have h := if_t c2 h
    refine lv_bipush (v := (-2)) hx hb dX10_distance_16 (by decide) ?_
    obtain rfl := Option.some.inj h
    exact r_iret S hr hlocks hw dX10_distance_18
  · have h := if_f c2 h
    refine lv_aload_n hx hb dX10_distance_8 rfl (lv_at hl 0 rfl) ?_
    refine lv_iload_n hx hb dX10_distance_9 rfl (lv_at hl 1 rfl) ?_
    obtain ⟨v3, gv3, h⟩ := oB_out h
    refine r_ci (r_runV (k := 72) (ci := 10) (As := [.int p1]) (rest := []) S hE hw (c_X10_distanceFlown  l G A σ p1 gv3) (cwV 1 hts gX10_distance_X10_distanceFlown rfl rfl rfl (by decide +kernel) ⟨Nat.le_of_ble_eq_true rfl, Nat.le_of_ble_eq_true rfl⟩) rfl rfl (by decide) rfl hl.1 rfl (Nat.le_of_ble_eq_true rfl) ⟨Nat.zero_le _, Nat.zero_le _⟩ dX10_distance_10) hw (fun H locs hw => ?_)
    refine lv_goto (tgt := 18) hx hb dX10_distance_13 (by decide) ?_
    obtain rfl := Option.some.inj h
    exact r_iret S hr hlocks hw dX10_distance_18


theorem mf44_X10_flown : Cond.fieldLink RX10 44 "GasVoyagesModel" "ft" "[I" ∈ wsX10_flown := by decide +kernel
set_option maxRecDepth 20000 in
theorem iw10_X10_flown : ∀ w ∈ u_ws RX10 TX10 43, w ∈ wsX10_flown := by decide +kernel
theorem mf47_X10_flown : Cond.fieldLink RX10 47 "GasVoyagesModel" "load" "[I" ∈ wsX10_flown := by decide +kernel
theorem mf132_X10_flown : Cond.fieldLink RX10 132 "GasVoyagesModel" "nowLevel" "I" ∈ wsX10_flown := by decide +kernel
theorem mf138_X10_flown : Cond.fieldLink RX10 138 "GasVoyagesModel" "nowX" "I" ∈ wsX10_flown := by decide +kernel
theorem mf141_X10_flown : Cond.fieldLink RX10 141 "GasVoyagesModel" "nowY" "I" ∈ wsX10_flown := by decide +kernel
theorem mf16_X10_flown : Cond.fieldLink RX10 16 "GasVoyagesModel" "kinds" "[I" ∈ wsX10_flown := by decide +kernel
def f_X10_flown_86 (kn15 : St → Int32 → Int32 → Int32 → Int32 → Int32 → Int32 → Int32 → Int32 → Int32 → Option (Int32 × St)) (σ : St) (x1 : Int32) (x2 : Int32) (x3 : Int32) (x4 : Int32) (x6 : Int32) (x7 : Int32) (x8 : Int32) (x10 : Int32) (y0 : Int32) : Option (Int32 × St) := Option.bind (aL σ 73 576 ((24 * (σ.1 72 30)) + (σ.1 72 29))) fun v1 => if v1 = 2 then (some ((-1), σ)) else (if y0 = 0 then (kn15 σ x1 x2 x3 x4 x6 x7 x8 y0 (x10 + 1)) else (if v1 = 1 then (some ((-1), σ)) else (kn15 σ x1 x2 x3 x4 x6 x7 x8 y0 (x10 + 1))))
set_option maxRecDepth 100000 in
set_option maxHeartbeats 4000000 in
theorem w_X10_flown_86 {p : Program} {l : Launch} {e : Env} {s : State} {m : MethodId} {args : Array Value} {below : List Frame} {meth : Method} {c : Code} {G : Gp} {A : Nat → Prop} (S : CallFix p m c cX10_flown 13 s args wsX10_flown RX10) (hr : meth.sig.returnType = (some .int)) (hlocks : meth.locks = false) (hE : Ev G A s) {kn15 : St → Int32 → Int32 → Int32 → Int32 → Int32 → Int32 → Int32 → Int32 → Int32 → Option (Int32 × St)} (hkn15 : ∀ (σ : St) (x1 : Int32) (x2 : Int32) (x3 : Int32) (x4 : Int32) (x6 : Int32) (x7 : Int32) (x8 : Int32) (x9 : Int32) (x10 : Int32) (r : Int32) (σ' : St), kn15 σ x1 x2 x3 x4 x6 x7 x8 x9 x10 = some (r, σ') → ∀ (H : Heap) (locs : List Loc) (ls : Array Slot), Ww G A σ s H locs → lv_has ls 13 [(0, .ref (ad G 72)), (1, .int x1), (2, .int x2), (3, .int x3), (4, .int x4), (6, .int x6), (7, .int x7), (8, .int x8), (9, .int x9), (10, .int x10)] → W p l e (rmd 4) s m args below meth c H locs 0 0 (Qi below args s G A r σ') (F0 m 15 ls [])) (σ : St) (x1 : Int32) (x2 : Int32) (x3 : Int32) (x4 : Int32) (x6 : Int32) (x7 : Int32) (x8 : Int32) (x10 : Int32) (y0 : Int32) {r : Int32} {σ' : St} (h : f_X10_flown_86  kn15 σ x1 x2 x3 x4 x6 x7 x8 x10 y0 = some (r, σ')) {H : Heap} {locs : List Loc} {ls : Array Slot} (hw : Ww G A σ s H locs) (hl : lv_has ls 13 [(0, .ref (ad G 72)), (1, .int x1), (2, .int x2), (3, .int x3), (4, .int x4), (6, .int x6), (7, .int x7), (8, .int x8), (10, .int x10)]) : W p l e (rmd 4) s m args below meth c H locs 0 0 (Qi below args s G A r σ') (F0 m 86 ls [.int y0]) := by
  obtain ⟨hx, hb, hml, hown, hts⟩ := id S
  unfold f_X10_flown_86 at h
  refine lv_istore (lv' := [(9, .int y0), (0, .ref (ad G 72)), (1, .int x1), (2, .int x2), (3, .int x3), (4, .int x4), (6, .int x6), (7, .int x7), (8, .int x8), (10, .int x10)]) hx hb dX10_flown_86 hl (by decide) rfl (fun ls hl => ?_)
  refine lv_aload_n hx hb dX10_flown_88 rfl (lv_at hl 1 rfl) ?_
  refine r_gr S hE hw 2 73 iw10_X10_flown rfl rfl (by decide) rfl (hts _ mf16_X10_flown) dX10_flown_89 ?_
  refine lv_bipush (v := 24) hx hb dX10_flown_92 (by decide) ?_
  refine lv_aload_n hx hb dX10_flown_94 rfl (lv_at hl 1 rfl) ?_
  refine r_gi S hE hw 30 iw10_X10_flown rfl rfl (by decide) (hts _ mf141_X10_flown) dX10_flown_95 ?_
  refine lv_imul hx hb dX10_flown_98 ?_
  refine lv_aload_n hx hb dX10_flown_99 rfl (lv_at hl 1 rfl) ?_
  refine r_gi S hE hw 29 iw10_X10_flown rfl rfl (by decide) (hts _ mf138_X10_flown) dX10_flown_100 ?_
  refine lv_iadd hx hb dX10_flown_103 ?_
  obtain ⟨v1, gv1, h⟩ := oB_out h
  refine r_al S hE hw rfl rfl gv1 dX10_flown_104 ?_
  refine lv_istore (lv' := [(12, .int v1), (9, .int y0), (0, .ref (ad G 72)), (1, .int x1), (2, .int x2), (3, .int x3), (4, .int x4), (6, .int x6), (7, .int x7), (8, .int x8), (10, .int x10)]) hx hb dX10_flown_105 hl (by decide) rfl (fun ls hl => ?_)
  refine lv_iload hx hb dX10_flown_107 (lv_at hl 0 rfl) ?_
  refine lv_iconst (v := 2) hx hb dX10_flown_109 (by decide) ?_
  refine lv_icmp_eq (tgt := 124) hx hb dX10_flown_110 (by decide) (fun c2 => ?_) (fun c2 => ?_)
  · have h := if_t c2 h
    refine lv_iconst (v := (-1)) hx hb dX10_flown_124 (by decide) ?_
    obtain ⟨rfl, rfl⟩ := rt2 h
    exact r_iret S hr hlocks hw dX10_flown_125
  · have h := if_f c2 h
    refine lv_iload hx hb dX10_flown_113 (lv_at hl 1 rfl) ?_
    refine lv_if_eq (tgt := 126) hx hb dX10_flown_115 (by decide) (fun c3 => ?_) (fun c3 => ?_)
    · have h := if_t c3 h
      refine lv_iinc (v := x10 + 1) (lv' := [(10, .int (x10 + 1)), (12, .int v1), (9, .int y0), (0, .ref (ad G 72)), (1, .int x1), (2, .int x2), (3, .int x3), (4, .int x4), (6, .int x6), (7, .int x7), (8, .int x8)]) hx hb dX10_flown_126 hl (k := 10) rfl rfl (by decide) rfl (fun ls hl => ?_)
      refine lv_goto (tgt := 15) hx hb dX10_flown_129 (by decide) ?_
      exact hkn15 σ x1 x2 x3 x4 x6 x7 x8 y0 (x10 + 1) _ _ h _ _ _ hw (lv_sub hl [3, 4, 5, 6, 7, 8, 9, 10, 2, 0] rfl)
    · have h := if_f c3 h
      refine lv_iload hx hb dX10_flown_118 (lv_at hl 0 rfl) ?_
      refine lv_iconst (v := 1) hx hb dX10_flown_120 (by decide) ?_
      refine lv_icmp_ne (tgt := 126) hx hb dX10_flown_121 (by decide) (fun c4 => ?_) (fun c4 => ?_)
      · have h := if_f c4 h
        refine lv_iinc (v := x10 + 1) (lv' := [(10, .int (x10 + 1)), (12, .int v1), (9, .int y0), (0, .ref (ad G 72)), (1, .int x1), (2, .int x2), (3, .int x3), (4, .int x4), (6, .int x6), (7, .int x7), (8, .int x8)]) hx hb dX10_flown_126 hl (k := 10) rfl rfl (by decide) rfl (fun ls hl => ?_)
        refine lv_goto (tgt := 15) hx hb dX10_flown_129 (by decide) ?_
        exact hkn15 σ x1 x2 x3 x4 x6 x7 x8 y0 (x10 + 1) _ _ h _ _ _ hw (lv_sub hl [3, 4, 5, 6, 7, 8, 9, 10, 2, 0] rfl)
      · have h := if_t c4 h
        refine lv_iconst (v := (-1)) hx hb dX10_flown_124 (by decide) ?_
        obtain ⟨rfl, rfl⟩ := rt2 h
        exact r_iret S hr hlocks hw dX10_flown_125

def f_X10_flown_132 (σ : St) (x6 : Int32) (x7 : Int32) : Option (Int32 × St) := some ((((σ.1 72 29) - x6) * ((σ.1 72 29) - x6)) + (((σ.1 72 30) - x7) * ((σ.1 72 30) - x7)), σ)
set_option maxRecDepth 100000 in
set_option maxHeartbeats 4000000 in
theorem w_X10_flown_132 {p : Program} {l : Launch} {e : Env} {s : State} {m : MethodId} {args : Array Value} {below : List Frame} {meth : Method} {c : Code} {G : Gp} {A : Nat → Prop} (S : CallFix p m c cX10_flown 13 s args wsX10_flown RX10) (hr : meth.sig.returnType = (some .int)) (hlocks : meth.locks = false) (hE : Ev G A s) (σ : St) (x6 : Int32) (x7 : Int32) {r : Int32} {σ' : St} (h : f_X10_flown_132   σ x6 x7 = some (r, σ')) {H : Heap} {locs : List Loc} {ls : Array Slot} (hw : Ww G A σ s H locs) (hl : lv_has ls 13 [(0, .ref (ad G 72)), (6, .int x6), (7, .int x7)]) : W p l e (rmd 4) s m args below meth c H locs 0 0 (Qi below args s G A r σ') (F0 m 132 ls []) := by
  obtain ⟨hx, hb, hml, hown, hts⟩ := id S
  unfold f_X10_flown_132 at h
  refine lv_aload_n hx hb dX10_flown_132 rfl (lv_at hl 0 rfl) ?_
  refine r_gi S hE hw 29 iw10_X10_flown rfl rfl (by decide) (hts _ mf138_X10_flown) dX10_flown_133 ?_
  refine lv_iload hx hb dX10_flown_136 (lv_at hl 1 rfl) ?_
  refine lv_isub hx hb dX10_flown_138 ?_
  refine lv_aload_n hx hb dX10_flown_139 rfl (lv_at hl 0 rfl) ?_
  refine r_gi S hE hw 29 iw10_X10_flown rfl rfl (by decide) (hts _ mf138_X10_flown) dX10_flown_140 ?_
  refine lv_iload hx hb dX10_flown_143 (lv_at hl 1 rfl) ?_
  refine lv_isub hx hb dX10_flown_145 ?_
  refine lv_imul hx hb dX10_flown_146 ?_
  refine lv_aload_n hx hb dX10_flown_147 rfl (lv_at hl 0 rfl) ?_
  refine r_gi S hE hw 30 iw10_X10_flown rfl rfl (by decide) (hts _ mf141_X10_flown) dX10_flown_148 ?_
  refine lv_iload hx hb dX10_flown_151 (lv_at hl 2 rfl) ?_
  refine lv_isub hx hb dX10_flown_153 ?_
  refine lv_aload_n hx hb dX10_flown_154 rfl (lv_at hl 0 rfl) ?_
  refine r_gi S hE hw 30 iw10_X10_flown rfl rfl (by decide) (hts _ mf141_X10_flown) dX10_flown_155 ?_
  refine lv_iload hx hb dX10_flown_158 (lv_at hl 2 rfl) ?_
  refine lv_isub hx hb dX10_flown_160 ?_
  refine lv_imul hx hb dX10_flown_161 ?_
  refine lv_iadd hx hb dX10_flown_162 ?_
  obtain ⟨rfl, rfl⟩ := rt2 h
  exact r_iret S hr hlocks hw dX10_flown_163

def f_X10_flown_15 : Nat → St → Int32 → Int32 → Int32 → Int32 → Int32 → Int32 → Int32 → Int32 → Int32 → Option (Int32 × St)
  | 0, _, _, _, _, _, _, _, _, _, _ => none
  | n + 1, σ, x1, x2, x3, x4, x6, x7, x8, x9, x10 => if x2 ≤ x10 then (f_X10_flown_132 σ x6 x7) else (Option.bind (nz (x8 / 3)) fun _ => if x9 = 0 then (Option.bind (aL σ 82 8 x1) fun v4 => Option.bind (aL σ 83 8 x1) fun v5 => Option.bind (f_X10_tick σ 1 ((v4 + x10) - (v4 + x10) / 24 * 24) v5 ((x4 / (x8 / 3)) - (x4 / (x8 / 3)) / 3 * 3) x3) fun s6 => if (s6.1 72 31) = 0 then (f_X10_flown_86 (fun σ x1 x2 x3 x4 x6 x7 x8 x9 x10 => f_X10_flown_15 n σ x1 x2 x3 x4 x6 x7 x8 x9 x10) s6 x1 x2 x3 x4 x6 x7 (x8 / 3) x10 1) else (f_X10_flown_86 (fun σ x1 x2 x3 x4 x6 x7 x8 x9 x10 => f_X10_flown_15 n σ x1 x2 x3 x4 x6 x7 x8 x9 x10) s6 x1 x2 x3 x4 x6 x7 (x8 / 3) x10 0)) else (if ((x4 / (x8 / 3)) - (x4 / (x8 / 3)) / 3 * 3) = 0 then (f_X10_flown_15 n σ x1 x2 x3 x4 x6 x7 (x8 / 3) x9 (x10 + 1)) else (some ((-1), σ))))
set_option maxRecDepth 100000 in
set_option maxHeartbeats 4000000 in
theorem w_X10_flown_15 {p : Program} {l : Launch} {e : Env} {s : State} {m : MethodId} {args : Array Value} {below : List Frame} {meth : Method} {c : Code} {G : Gp} {A : Nat → Prop} (S : CallFix p m c cX10_flown 13 s args wsX10_flown RX10) (hr : meth.sig.returnType = (some .int)) (hlocks : meth.locks = false) (hE : Ev G A s) (n : Nat) (σ : St) (x1 : Int32) (x2 : Int32) (x3 : Int32) (x4 : Int32) (x6 : Int32) (x7 : Int32) (x8 : Int32) (x9 : Int32) (x10 : Int32) {r : Int32} {σ' : St} (h : f_X10_flown_15   n σ x1 x2 x3 x4 x6 x7 x8 x9 x10 = some (r, σ')) {H : Heap} {locs : List Loc} {ls : Array Slot} (hw : Ww G A σ s H locs) (hl : lv_has ls 13 [(0, .ref (ad G 72)), (1, .int x1), (2, .int x2), (3, .int x3), (4, .int x4), (6, .int x6), (7, .int x7), (8, .int x8), (9, .int x9), (10, .int x10)]) : W p l e (rmd 4) s m args below meth c H locs 0 0 (Qi below args s G A r σ') (F0 m 15 ls []) := by
  obtain ⟨hx, hb, hml, hown, hts⟩ := id S
  induction n generalizing σ x1 x2 x3 x4 x6 x7 x8 x9 x10 r σ' H locs ls with
  | zero => cases h
  | succ n ih =>
    unfold f_X10_flown_15 at h
    refine lv_iload hx hb dX10_flown_15 (lv_at hl 9 rfl) ?_
    refine lv_iload_n hx hb dX10_flown_17 rfl (lv_at hl 2 rfl) ?_
    refine lv_icmp_ge (tgt := 132) hx hb dX10_flown_18 (by decide) (fun c1 => ?_) (fun c1 => ?_)
    · have h := if_t c1 h
      exact w_X10_flown_132   S hr hlocks hE   σ x6 x7 h hw (lv_sub hl [0, 5, 6] rfl)
    · have h := if_f c1 h
      refine lv_iload hx hb dX10_flown_21 (lv_at hl 7 rfl) ?_
      refine lv_iconst (v := 3) hx hb dX10_flown_23 (by decide) ?_
      refine lv_idiv hx hb dX10_flown_24 (by decide) ?_
      refine lv_istore (lv' := [(8, .int (x8 / 3)), (0, .ref (ad G 72)), (1, .int x1), (2, .int x2), (3, .int x3), (4, .int x4), (6, .int x6), (7, .int x7), (9, .int x9), (10, .int x10)]) hx hb dX10_flown_25 hl (by decide) rfl (fun ls hl => ?_)
      refine lv_iload hx hb dX10_flown_27 (lv_at hl 5 rfl) ?_
      refine lv_iload hx hb dX10_flown_29 (lv_at hl 0 rfl) ?_
      obtain ⟨z2, gz2, h⟩ := oB_out h
      have gnz2 := (nz_in gz2).1
      refine lv_idiv hx hb dX10_flown_31 gnz2 ?_
      refine lv_iconst (v := 3) hx hb dX10_flown_32 (by decide) ?_
      refine lv_irem hx hb dX10_flown_33 (by decide) ?_
      refine lv_istore (lv' := [(11, .int ((x4 / (x8 / 3)) - (x4 / (x8 / 3)) / 3 * 3)), (8, .int (x8 / 3)), (0, .ref (ad G 72)), (1, .int x1), (2, .int x2), (3, .int x3), (4, .int x4), (6, .int x6), (7, .int x7), (9, .int x9), (10, .int x10)]) hx hb dX10_flown_34 hl (by decide) rfl (fun ls hl => ?_)
      refine lv_iload hx hb dX10_flown_36 (lv_at hl 9 rfl) ?_
      refine lv_if_eq (tgt := 48) hx hb dX10_flown_38 (by decide) (fun c3 => ?_) (fun c3 => ?_)
      · have h := if_t c3 h
        refine lv_aload_n hx hb dX10_flown_48 rfl (lv_at hl 2 rfl) ?_
        refine lv_iconst (v := 1) hx hb dX10_flown_49 (by decide) ?_
        refine lv_aload_n hx hb dX10_flown_50 rfl (lv_at hl 2 rfl) ?_
        refine r_gr S hE hw 12 82 iw10_X10_flown rfl rfl (by decide) rfl (hts _ mf44_X10_flown) dX10_flown_51 ?_
        refine lv_iload_n hx hb dX10_flown_54 rfl (lv_at hl 3 rfl) ?_
        obtain ⟨v4, gv4, h⟩ := oB_out h
        refine r_al S hE hw rfl rfl gv4 dX10_flown_55 ?_
        refine lv_iload hx hb dX10_flown_56 (lv_at hl 10 rfl) ?_
        refine lv_iadd hx hb dX10_flown_58 ?_
        refine lv_bipush (v := 24) hx hb dX10_flown_59 (by decide) ?_
        refine lv_irem hx hb dX10_flown_61 (by decide) ?_
        refine lv_aload_n hx hb dX10_flown_62 rfl (lv_at hl 2 rfl) ?_
        refine r_gr S hE hw 13 83 iw10_X10_flown rfl rfl (by decide) rfl (hts _ mf47_X10_flown) dX10_flown_63 ?_
        refine lv_iload_n hx hb dX10_flown_66 rfl (lv_at hl 3 rfl) ?_
        obtain ⟨v5, gv5, h⟩ := oB_out h
        refine r_al S hE hw rfl rfl gv5 dX10_flown_67 ?_
        refine lv_iload hx hb dX10_flown_68 (lv_at hl 0 rfl) ?_
        refine lv_iload_n hx hb dX10_flown_70 rfl (lv_at hl 5 rfl) ?_
        obtain ⟨s6, gs6, h⟩ := oB_out h
        refine r_cv (r_runV (k := 72) (ci := 10) (As := [.int 1, .int ((v4 + x10) - (v4 + x10) / 24 * 24), .int v5, .int ((x4 / (x8 / 3)) - (x4 / (x8 / 3)) / 3 * 3), .int x3]) (rest := []) S hE hw (c_X10_tick  l G A σ 1 ((v4 + x10) - (v4 + x10) / 24 * 24) v5 ((x4 / (x8 / 3)) - (x4 / (x8 / 3)) / 3 * 3) x3 gs6) (cwV 5 hts gX10_flown_X10_tick rfl rfl rfl (by decide +kernel) ⟨Nat.le_of_ble_eq_true rfl, Nat.le_of_ble_eq_true rfl⟩) rfl rfl (by decide) rfl hl.1 rfl (Nat.le_of_ble_eq_true rfl) ⟨Nat.zero_le _, Nat.zero_le _⟩ dX10_flown_71) hw (fun H locs hw => ?_)
        refine lv_aload_n hx hb dX10_flown_74 rfl (lv_at hl 2 rfl) ?_
        refine r_gi S hE hw 31 iw10_X10_flown rfl rfl (by decide) (hts _ mf132_X10_flown) dX10_flown_75 ?_
        refine lv_if_ne (tgt := 85) hx hb dX10_flown_78 (by decide) (fun c7 => ?_) (fun c7 => ?_)
        · have h := if_f c7 h
          refine lv_iconst (v := 0) hx hb dX10_flown_85 (by decide) ?_
          exact w_X10_flown_86   S hr hlocks hE (fun σ x1 x2 x3 x4 x6 x7 x8 x9 x10  _ _ h _ _ _ hw hl => ih σ x1 x2 x3 x4 x6 x7 x8 x9 x10  h hw hl)  s6 x1 x2 x3 x4 x6 x7 (x8 / 3) x10 0 h hw (lv_sub hl [2, 3, 4, 5, 6, 7, 8, 1, 10] rfl)
        · have h := if_t c7 h
          refine lv_iconst (v := 1) hx hb dX10_flown_81 (by decide) ?_
          refine lv_goto (tgt := 86) hx hb dX10_flown_82 (by decide) ?_
          exact w_X10_flown_86   S hr hlocks hE (fun σ x1 x2 x3 x4 x6 x7 x8 x9 x10  _ _ h _ _ _ hw hl => ih σ x1 x2 x3 x4 x6 x7 x8 x9 x10  h hw hl)  s6 x1 x2 x3 x4 x6 x7 (x8 / 3) x10 1 h hw (lv_sub hl [2, 3, 4, 5, 6, 7, 8, 1, 10] rfl)
      · have h := if_f c3 h
        refine lv_iload hx hb dX10_flown_41 (lv_at hl 0 rfl) ?_
        refine lv_if_eq (tgt := 126) hx hb dX10_flown_43 (by decide) (fun c8 => ?_) (fun c8 => ?_)
        · have h := if_t c8 h
          refine lv_iinc (v := x10 + 1) (lv' := [(10, .int (x10 + 1)), (11, .int ((x4 / (x8 / 3)) - (x4 / (x8 / 3)) / 3 * 3)), (8, .int (x8 / 3)), (0, .ref (ad G 72)), (1, .int x1), (2, .int x2), (3, .int x3), (4, .int x4), (6, .int x6), (7, .int x7), (9, .int x9)]) hx hb dX10_flown_126 hl (k := 10) rfl rfl (by decide) rfl (fun ls hl => ?_)
          refine lv_goto (tgt := 15) hx hb dX10_flown_129 (by decide) ?_
          exact ih σ x1 x2 x3 x4 x6 x7 (x8 / 3) x9 (x10 + 1) h hw (lv_sub hl [3, 4, 5, 6, 7, 8, 9, 2, 10, 0] rfl)
        · have h := if_f c8 h
          refine lv_iconst (v := (-1)) hx hb dX10_flown_46 (by decide) ?_
          obtain ⟨rfl, rfl⟩ := rt2 h
          exact r_iret S hr hlocks hw dX10_flown_47

def f_X10_flown (σ : St) (p1 : Int32) (p2 : Int32) (p3 : Int32) (p4 : Int32) (p5 : Int32) (p6 : Int32) (p7 : Int32) : Option (Int32 × St) := Option.bind (f_X10_begin σ p1) fun s1 => f_X10_flown_15 10000 s1 p1 p2 p3 p4 p6 p7 p5 0 0
set_option maxRecDepth 100000 in
set_option maxHeartbeats 4000000 in
theorem c_X10_flown (l : Launch) (G : Gp) (A : Nat → Prop) (σ : St) (p1 : Int32) (p2 : Int32) (p3 : Int32) (p4 : Int32) (p5 : Int32) (p6 : Int32) (p7 : Int32) {r : Int32} {σ' : St} (h : f_X10_flown σ p1 p2 p3 p4 p5 p6 p7 = some (r, σ')) : Ki l yX10_flown wsX10_flown 4 G A [.ref (ad G 72), .int p1, .int p2, .int p3, .int p4, .int p5, .int p6, .int p7] σ r σ' := by
  unfold f_X10_flown at h
  refine r_start (ws := wsX10_flown) (d := 4) (by decide) rfl [.ref (ad G 72), .int p1, .int p2, .int p3, .int p4, .int p5, .int p6, .int p7] (Nat.le_of_ble_eq_true rfl) ?_
  intro p e s m below meth c S hr hlocks hE hw ls hl
  have hl : lv_has ls 13 [(0, .ref (ad G 72)), (1, .int p1), (2, .int p2), (3, .int p3), (4, .int p4), (5, .int p5), (6, .int p6), (7, .int p7)] := hl
  obtain ⟨hx, hb, hml, hown, hts⟩ := id S
  refine lv_aload_n hx hb dX10_flown_0 rfl (lv_at hl 0 rfl) ?_
  refine lv_iload_n hx hb dX10_flown_1 rfl (lv_at hl 1 rfl) ?_
  obtain ⟨s1, gs1, h⟩ := oB_out h
  refine r_cv (r_runV (k := 72) (ci := 10) (As := [.int p1]) (rest := []) S hE hw (c_X10_begin  l G A σ p1 gs1) (cwV 1 hts gX10_flown_X10_begin rfl rfl rfl (by decide +kernel) ⟨Nat.le_of_ble_eq_true rfl, Nat.le_of_ble_eq_true rfl⟩) rfl rfl (by decide) rfl hl.1 rfl (Nat.le_of_ble_eq_true rfl) ⟨Nat.zero_le _, Nat.zero_le _⟩ dX10_flown_2) hw (fun H locs hw => ?_)
  refine lv_iload hx hb dX10_flown_5 (lv_at hl 5 rfl) ?_
  refine lv_istore (lv' := [(8, .int p5), (0, .ref (ad G 72)), (1, .int p1), (2, .int p2), (3, .int p3), (4, .int p4), (5, .int p5), (6, .int p6), (7, .int p7)]) hx hb dX10_flown_7 hl (by decide) rfl (fun ls hl => ?_)
  refine lv_iconst (v := 0) hx hb dX10_flown_9 (by decide) ?_
  refine lv_istore (lv' := [(9, .int 0), (8, .int p5), (0, .ref (ad G 72)), (1, .int p1), (2, .int p2), (3, .int p3), (4, .int p4), (5, .int p5), (6, .int p6), (7, .int p7)]) hx hb dX10_flown_10 hl (by decide) rfl (fun ls hl => ?_)
  refine lv_iconst (v := 0) hx hb dX10_flown_12 (by decide) ?_
  refine lv_istore (lv' := [(10, .int 0), (9, .int 0), (8, .int p5), (0, .ref (ad G 72)), (1, .int p1), (2, .int p2), (3, .int p3), (4, .int p4), (5, .int p5), (6, .int p6), (7, .int p7)]) hx hb dX10_flown_13 hl (by decide) rfl (fun ls hl => ?_)
  exact w_X10_flown_15   S hr hlocks hE  10000 s1 p1 p2 p3 p4 p6 p7 p5 0 0 h hw (lv_sub hl [3, 4, 5, 6, 7, 9, 10, 2, 1, 0] rfl)

