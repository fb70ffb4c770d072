theorem mf176_X10_planned : Cond.fieldLink RX10 176 "GasVoyagesModel" "planMany" "I" ∈ wsX10_planned := by decide +kernel
set_option maxRecDepth 20000 in
theorem iw10_X10_planned : ∀ w ∈ u_ws RX10 TX10 43, w ∈ wsX10_planned := by decide +kernel
theorem mf87_X10_planned : Cond.fieldLink RX10 87 "GasVoyagesModel" "plan" "[I" ∈ wsX10_planned := by decide +kernel
def f_X10_planned_91 (kn33 : St → Int32 → Int32 → Int32 → Int32 → Int32 → Int32 → Int32 → Int32 → Int32 → Int32 → Option (Int32 × St)) (σ : St) (x1 : Int32) (x2 : Int32) (x3 : Int32) (x4 : Int32) (x5 : Int32) (x6 : Int32) (x7 : Int32) (x10 : Int32) (x11 : Int32) : Option (Int32 × St) := kn33 σ x1 x2 x3 x4 x5 x6 x7 x11 x10 (x10 + 1)
set_option maxRecDepth 100000 in
set_option maxHeartbeats 4000000 in
theorem w_X10_planned_91 {p : Program} {l : Launch} {e : Env} {s : State} {m : MethodId} {args : Array Value} {below : List Frame} {meth : Method} {c : Code} {G : Gp} {A : Nat → Prop} (S : CallFix p m c cX10_planned 12 s args wsX10_planned RX10) (hr : meth.sig.returnType = (some .int)) (hlocks : meth.locks = false) (hE : Ev G A s) {kn33 : St → Int32 → Int32 → Int32 → Int32 → Int32 → Int32 → Int32 → Int32 → Int32 → Int32 → Option (Int32 × St)} (hkn33 : ∀ (σ : St) (x1 : Int32) (x2 : Int32) (x3 : Int32) (x4 : Int32) (x5 : Int32) (x6 : Int32) (x7 : Int32) (x8 : Int32) (x9 : Int32) (x10 : Int32) (r : Int32) (σ' : St), kn33 σ x1 x2 x3 x4 x5 x6 x7 x8 x9 x10 = some (r, σ') → ∀ (H : Heap) (locs : List Loc) (ls : Array Slot), Ww G A σ s H locs → lv_has ls 12 [(0, .ref (ad G 72)), (1, .int x1), (2, .int x2), (3, .int x3), (4, .int x4), (5, .int x5), (6, .int x6), (7, .int x7), (8, .int x8), (9, .int x9), (10, .int x10)] → W p l e (rmd 5) s m args below meth c H locs 0 0 (Qi below args s G A r σ') (F0 m 33 ls [])) (σ : St) (x1 : Int32) (x2 : Int32) (x3 : Int32) (x4 : Int32) (x5 : Int32) (x6 : Int32) (x7 : Int32) (x10 : Int32) (x11 : Int32) {r : Int32} {σ' : St} (h : f_X10_planned_91  kn33 σ x1 x2 x3 x4 x5 x6 x7 x10 x11 = some (r, σ')) {H : Heap} {locs : List Loc} {ls : Array Slot} (hw : Ww G A σ s H locs) (hl : lv_has ls 12 [(0, .ref (ad G 72)), (1, .int x1), (2, .int x2), (3, .int x3), (4, .int x4), (5, .int x5), (6, .int x6), (7, .int x7), (10, .int x10), (11, .int x11)]) : W p l e (rmd 5) s m args below meth c H locs 0 0 (Qi below args s G A r σ') (F0 m 91 ls []) := by
  obtain ⟨hx, hb, hml, hown, hts⟩ := id S
  unfold f_X10_planned_91 at h
  refine lv_iload hx hb dX10_planned_91 (lv_at hl 9 rfl) ?_
  refine lv_istore (lv' := [(8, .int x11), (0, .ref (ad G 72)), (1, .int x1), (2, .int x2), (3, .int x3), (4, .int x4), (5, .int x5), (6, .int x6), (7, .int x7), (10, .int x10), (11, .int x11)]) hx hb dX10_planned_93 hl (by decide) rfl (fun ls hl => ?_)
  refine lv_iload hx hb dX10_planned_95 (lv_at hl 9 rfl) ?_
  refine lv_istore (lv' := [(9, .int x10), (8, .int x11), (0, .ref (ad G 72)), (1, .int x1), (2, .int x2), (3, .int x3), (4, .int x4), (5, .int x5), (6, .int x6), (7, .int x7), (10, .int x10), (11, .int x11)]) hx hb dX10_planned_97 hl (by decide) rfl (fun ls hl => ?_)
  refine lv_iinc (v := x10 + 1) (lv' := [(10, .int (x10 + 1)), (9, .int x10), (8, .int x11), (0, .ref (ad G 72)), (1, .int x1), (2, .int x2), (3, .int x3), (4, .int x4), (5, .int x5), (6, .int x6), (7, .int x7), (11, .int x11)]) hx hb dX10_planned_99 hl (k := 10) rfl rfl (by decide) rfl (fun ls hl => ?_)
  refine lv_goto (tgt := 33) hx hb dX10_planned_102 (by decide) ?_
  exact hkn33 σ x1 x2 x3 x4 x5 x6 x7 x11 x10 (x10 + 1) _ _ h _ _ _ hw (lv_sub hl [3, 4, 5, 6, 7, 8, 9, 10, 2, 1, 0] rfl)

def f_X10_planned_123 : Nat → St → Int32 → Int32 → Int32 → Option (Int32 × St)
  | 0, _, _, _, _ => none
  | n + 1, σ, x8, x9, x10 => if x10 < 0 then (some (x8, σ)) else (Option.bind (aS σ 96 6 x10 (x9 - x9 / 3 * 3)) fun s2 => f_X10_planned_123 n s2 x8 (x9 / 3) (x10 + (-1)))
set_option maxRecDepth 100000 in
set_option maxHeartbeats 4000000 in
theorem w_X10_planned_123 {p : Program} {l : Launch} {e : Env} {s : State} {m : MethodId} {args : Array Value} {below : List Frame} {meth : Method} {c : Code} {G : Gp} {A : Nat → Prop} (S : CallFix p m c cX10_planned 12 s args wsX10_planned RX10) (hr : meth.sig.returnType = (some .int)) (hlocks : meth.locks = false) (hE : Ev G A s) (n : Nat) (σ : St) (x8 : Int32) (x9 : Int32) (x10 : Int32) {r : Int32} {σ' : St} (h : f_X10_planned_123   n σ x8 x9 x10 = some (r, σ')) {H : Heap} {locs : List Loc} {ls : Array Slot} (hw : Ww G A σ s H locs) (hl : lv_has ls 12 [(0, .ref (ad G 72)), (8, .int x8), (9, .int x9), (10, .int x10)]) : W p l e (rmd 5) s m args below meth c H locs 0 0 (Qi below args s G A r σ') (F0 m 123 ls []) := by
  obtain ⟨hx, hb, hml, hown, hts⟩ := id S
  induction n generalizing σ x8 x9 x10 r σ' H locs ls with
  | zero => cases h
  | succ n ih =>
    unfold f_X10_planned_123 at h
    refine lv_iload hx hb dX10_planned_123 (lv_at hl 3 rfl) ?_
    refine lv_if_lt (tgt := 151) hx hb dX10_planned_125 (by decide) (fun c1 => ?_) (fun c1 => ?_)
    · have h := if_t c1 h
      refine lv_iload hx hb dX10_planned_151 (lv_at hl 1 rfl) ?_
      obtain ⟨rfl, rfl⟩ := rt2 h
      exact r_iret S hr hlocks hw dX10_planned_153
    · have h := if_f c1 h
      refine lv_aload_n hx hb dX10_planned_128 rfl (lv_at hl 0 rfl) ?_
      refine r_gr S hE hw 27 96 iw10_X10_planned rfl rfl (by decide) rfl (hts _ mf87_X10_planned) dX10_planned_129 ?_
      refine lv_iload hx hb dX10_planned_132 (lv_at hl 3 rfl) ?_
      refine lv_iload hx hb dX10_planned_134 (lv_at hl 2 rfl) ?_
      refine lv_iconst (v := 3) hx hb dX10_planned_136 (by decide) ?_
      refine lv_irem hx hb dX10_planned_137 (by decide) ?_
      obtain ⟨s2, gs2, h⟩ := oB_out h
      refine r_as S hE hw rfl rfl gs2 dX10_planned_138 (fun H locs hw => ?_)
      refine lv_iload hx hb dX10_planned_139 (lv_at hl 2 rfl) ?_
      refine lv_iconst (v := 3) hx hb dX10_planned_141 (by decide) ?_
      refine lv_idiv hx hb dX10_planned_142 (by decide) ?_
      refine lv_istore (lv' := [(9, .int (x9 / 3)), (0, .ref (ad G 72)), (8, .int x8), (10, .int x10)]) hx hb dX10_planned_143 hl (by decide) rfl (fun ls hl => ?_)
      refine lv_iinc (v := x10 + (-1)) (lv' := [(10, .int (x10 + (-1))), (9, .int (x9 / 3)), (0, .ref (ad G 72)), (8, .int x8)]) hx hb dX10_planned_145 hl (k := 3) rfl rfl (by decide) rfl (fun ls hl => ?_)
      refine lv_goto (tgt := 123) hx hb dX10_planned_148 (by decide) ?_
      exact ih s2 x8 (x9 / 3) (x10 + (-1)) h hw (lv_sub hl [2, 3, 1, 0] rfl)

def f_X10_planned_105 (σ : St) (x2 : Int32) (x8 : Int32) (x9 : Int32) : Option (Int32 × St) := if x8 = (-1) then (some ((-1), σ)) else (bT (up σ 72 28 x2) fun s2 => f_X10_planned_123 10000 s2 x8 x9 (x2 - 1))
set_option maxRecDepth 100000 in
set_option maxHeartbeats 4000000 in
theorem w_X10_planned_105 {p : Program} {l : Launch} {e : Env} {s : State} {m : MethodId} {args : Array Value} {below : List Frame} {meth : Method} {c : Code} {G : Gp} {A : Nat → Prop} (S : CallFix p m c cX10_planned 12 s args wsX10_planned RX10) (hr : meth.sig.returnType = (some .int)) (hlocks : meth.locks = false) (hE : Ev G A s) (σ : St) (x2 : Int32) (x8 : Int32) (x9 : Int32) {r : Int32} {σ' : St} (h : f_X10_planned_105   σ x2 x8 x9 = some (r, σ')) {H : Heap} {locs : List Loc} {ls : Array Slot} (hw : Ww G A σ s H locs) (hl : lv_has ls 12 [(0, .ref (ad G 72)), (2, .int x2), (8, .int x8), (9, .int x9)]) : W p l e (rmd 5) s m args below meth c H locs 0 0 (Qi below args s G A r σ') (F0 m 105 ls []) := by
  obtain ⟨hx, hb, hml, hown, hts⟩ := id S
  unfold f_X10_planned_105 at h
  refine lv_iload hx hb dX10_planned_105 (lv_at hl 2 rfl) ?_
  refine lv_iconst (v := (-1)) hx hb dX10_planned_107 (by decide) ?_
  refine lv_icmp_ne (tgt := 113) hx hb dX10_planned_108 (by decide) (fun c1 => ?_) (fun c1 => ?_)
  · have h := if_f c1 h
    refine lv_aload_n hx hb dX10_planned_113 rfl (lv_at hl 0 rfl) ?_
    refine lv_iload_n hx hb dX10_planned_114 rfl (lv_at hl 1 rfl) ?_
    obtain ⟨s2, gs2, h⟩ := bT_out h
    refine r_pi S hE hw 28 x2 iw10_X10_planned tyX10 tyX10_ok nmX10 rfl rfl (by decide) (hts _ mf176_X10_planned) rfl (ty := .int) (by decide +kernel) rfl rfl dX10_planned_115 (fun H locs hw => ?_)
    rw [← gs2] at hw
    refine lv_iload_n hx hb dX10_planned_118 rfl (lv_at hl 1 rfl) ?_
    refine lv_iconst (v := 1) hx hb dX10_planned_119 (by decide) ?_
    refine lv_isub hx hb dX10_planned_120 ?_
    refine lv_istore (lv' := [(10, .int (x2 - 1)), (0, .ref (ad G 72)), (2, .int x2), (8, .int x8), (9, .int x9)]) hx hb dX10_planned_121 hl (by decide) rfl (fun ls hl => ?_)
    exact w_X10_planned_123   S hr hlocks hE  10000 s2 x8 x9 (x2 - 1) h hw (lv_sub hl [1, 3, 4, 0] rfl)
  · have h := if_t c1 h
    refine lv_iconst (v := (-1)) hx hb dX10_planned_111 (by decide) ?_
    obtain ⟨rfl, rfl⟩ := rt2 h
    exact r_iret S hr hlocks hw dX10_planned_112

def f_X10_planned_33 : Nat → St → Int32 → Int32 → Int32 → Int32 → Int32 → Int32 → Int32 → Int32 → Int32 → Int32 → Option (Int32 × St)
  | 0, _, _, _, _, _, _, _, _, _, _, _ => none
  | n + 1, σ, x1, x2, x3, x4, x5, x6, x7, x8, x9, x10 => if x7 ≤ x10 then (f_X10_planned_105 σ x2 x8 x9) else (oB2 (f_X10_flown σ x1 x2 x3 x10 x7 x4 x5) fun v2 s3 => if v2 = (-1) then (f_X10_planned_33 n s3 x1 x2 x3 x4 x5 x6 x7 x8 x9 (x10 + 1)) else (if x8 = (-1) then (f_X10_planned_91 (fun σ x1 x2 x3 x4 x5 x6 x7 x8 x9 x10 => f_X10_planned_33 n σ x1 x2 x3 x4 x5 x6 x7 x8 x9 x10) s3 x1 x2 x3 x4 x5 x6 x7 x10 v2) else (if x6 = 0 then (if x8 ≤ v2 then (f_X10_planned_33 n s3 x1 x2 x3 x4 x5 x6 x7 x8 x9 (x10 + 1)) else (f_X10_planned_91 (fun σ x1 x2 x3 x4 x5 x6 x7 x8 x9 x10 => f_X10_planned_33 n σ x1 x2 x3 x4 x5 x6 x7 x8 x9 x10) s3 x1 x2 x3 x4 x5 x6 x7 x10 v2)) else (if v2 ≤ x8 then (f_X10_planned_33 n s3 x1 x2 x3 x4 x5 x6 x7 x8 x9 (x10 + 1)) else (f_X10_planned_91 (fun σ x1 x2 x3 x4 x5 x6 x7 x8 x9 x10 => f_X10_planned_33 n σ x1 x2 x3 x4 x5 x6 x7 x8 x9 x10) s3 x1 x2 x3 x4 x5 x6 x7 x10 v2)))))
set_option maxRecDepth 100000 in
set_option maxHeartbeats 4000000 in
theorem w_X10_planned_33 {p : Program} {l : Launch} {e : Env} {s : State} {m : MethodId} {args : Array Value} {below : List Frame} {meth : Method} {c : Code} {G : Gp} {A : Nat → Prop} (S : CallFix p m c cX10_planned 12 s args wsX10_planned RX10) (hr : meth.sig.returnType = (some .int)) (hlocks : meth.locks = false) (hE : Ev G A s) (n : Nat) (σ : St) (x1 : Int32) (x2 : Int32) (x3 : Int32) (x4 : Int32) (x5 : Int32) (x6 : Int32) (x7 : Int32) (x8 : Int32) (x9 : Int32) (x10 : Int32) {r : Int32} {σ' : St} (h : f_X10_planned_33   n σ x1 x2 x3 x4 x5 x6 x7 x8 x9 x10 = some (r, σ')) {H : Heap} {locs : List Loc} {ls : Array Slot} (hw : Ww G A σ s H locs) (hl : lv_has ls 12 [(0, .ref (ad G 72)), (1, .int x1), (2, .int x2), (3, .int x3), (4, .int x4), (5, .int x5), (6, .int x6), (7, .int x7), (8, .int x8), (9, .int x9), (10, .int x10)]) : W p l e (rmd 5) s m args below meth c H locs 0 0 (Qi below args s G A r σ') (F0 m 33 ls []) := by
  obtain ⟨hx, hb, hml, hown, hts⟩ := id S
  induction n generalizing σ x1 x2 x3 x4 x5 x6 x7 x8 x9 x10 r σ' H locs ls with
  | zero => cases h
  | succ n ih =>
    unfold f_X10_planned_33 at h
    refine lv_iload hx hb dX10_planned_33 (lv_at hl 10 rfl) ?_
    refine lv_iload hx hb dX10_planned_35 (lv_at hl 7 rfl) ?_
    refine lv_icmp_ge (tgt := 105) hx hb dX10_planned_37 (by decide) (fun c1 => ?_) (fun c1 => ?_)
    · have h := if_t c1 h
      exact w_X10_planned_105   S hr hlocks hE   σ x2 x8 x9 h hw (lv_sub hl [0, 2, 8, 9] rfl)
    · have h := if_f c1 h
      refine lv_aload_n hx hb dX10_planned_40 rfl (lv_at hl 0 rfl) ?_
      refine lv_iload_n hx hb dX10_planned_41 rfl (lv_at hl 1 rfl) ?_
      refine lv_iload_n hx hb dX10_planned_42 rfl (lv_at hl 2 rfl) ?_
      refine lv_iload_n hx hb dX10_planned_43 rfl (lv_at hl 3 rfl) ?_
      refine lv_iload hx hb dX10_planned_44 (lv_at hl 10 rfl) ?_
      refine lv_iload hx hb dX10_planned_46 (lv_at hl 7 rfl) ?_
      refine lv_iload hx hb dX10_planned_48 (lv_at hl 4 rfl) ?_
      refine lv_iload hx hb dX10_planned_50 (lv_at hl 5 rfl) ?_
      obtain ⟨v2, s3, gv2, h⟩ := oB2_out h
      refine r_ci (r_runV (k := 72) (ci := 10) (As := [.int x1, .int x2, .int x3, .int x10, .int x7, .int x4, .int x5]) (rest := []) S hE hw (c_X10_flown  l G A σ x1 x2 x3 x10 x7 x4 x5 gv2) (cwV 7 hts gX10_planned_X10_flown rfl rfl rfl (by decide +kernel) ⟨Nat.le_of_ble_eq_true rfl, Nat.le_of_ble_eq_true rfl⟩) rfl rfl (by decide) rfl hl.1 rfl (Nat.le_of_ble_eq_true rfl) ⟨Nat.zero_le _, Nat.zero_le _⟩ dX10_planned_52) hw (fun H locs hw => ?_)
      refine lv_istore (lv' := [(11, .int v2), (0, .ref (ad G 72)), (1, .int x1), (2, .int x2), (3, .int x3), (4, .int x4), (5, .int x5), (6, .int x6), (7, .int x7), (8, .int x8), (9, .int x9), (10, .int x10)]) hx hb dX10_planned_55 hl (by decide) rfl (fun ls hl => ?_)
      refine lv_iload hx hb dX10_planned_57 (lv_at hl 0 rfl) ?_
      refine lv_iconst (v := (-1)) hx hb dX10_planned_59 (by decide) ?_
      refine lv_icmp_eq (tgt := 99) hx hb dX10_planned_60 (by decide) (fun c4 => ?_) (fun c4 => ?_)
      · have h := if_t c4 h
        refine lv_iinc (v := x10 + 1) (lv' := [(10, .int (x10 + 1)), (11, .int v2), (0, .ref (ad G 72)), (1, .int x1), (2, .int x2), (3, .int x3), (4, .int x4), (5, .int x5), (6, .int x6), (7, .int x7), (8, .int x8), (9, .int x9)]) hx hb dX10_planned_99 hl (k := 11) rfl rfl (by decide) rfl (fun ls hl => ?_)
        refine lv_goto (tgt := 33) hx hb dX10_planned_102 (by decide) ?_
        exact ih s3 x1 x2 x3 x4 x5 x6 x7 x8 x9 (x10 + 1) h hw (lv_sub hl [2, 3, 4, 5, 6, 7, 8, 9, 10, 11, 0] rfl)
      · have h := if_f c4 h
        refine lv_iload hx hb dX10_planned_63 (lv_at hl 9 rfl) ?_
        refine lv_iconst (v := (-1)) hx hb dX10_planned_65 (by decide) ?_
        refine lv_icmp_eq (tgt := 91) hx hb dX10_planned_66 (by decide) (fun c5 => ?_) (fun c5 => ?_)
        · have h := if_t c5 h
          exact w_X10_planned_91   S hr hlocks hE (fun σ x1 x2 x3 x4 x5 x6 x7 x8 x9 x10  _ _ h _ _ _ hw hl => ih σ x1 x2 x3 x4 x5 x6 x7 x8 x9 x10  h hw hl)  s3 x1 x2 x3 x4 x5 x6 x7 x10 v2 h hw (lv_sub hl [1, 2, 3, 4, 5, 6, 7, 8, 11, 0] rfl)
        · have h := if_f c5 h
          refine lv_iload hx hb dX10_planned_69 (lv_at hl 7 rfl) ?_
          refine lv_if_eq (tgt := 84) hx hb dX10_planned_71 (by decide) (fun c6 => ?_) (fun c6 => ?_)
          · have h := if_t c6 h
            refine lv_iload hx hb dX10_planned_84 (lv_at hl 0 rfl) ?_
            refine lv_iload hx hb dX10_planned_86 (lv_at hl 9 rfl) ?_
            refine lv_icmp_ge (tgt := 99) hx hb dX10_planned_88 (by decide) (fun c7 => ?_) (fun c7 => ?_)
            · have h := if_t c7 h
              refine lv_iinc (v := x10 + 1) (lv' := [(10, .int (x10 + 1)), (11, .int v2), (0, .ref (ad G 72)), (1, .int x1), (2, .int x2), (3, .int x3), (4, .int x4), (5, .int x5), (6, .int x6), (7, .int x7), (8, .int x8), (9, .int x9)]) hx hb dX10_planned_99 hl (k := 11) rfl rfl (by decide) rfl (fun ls hl => ?_)
              refine lv_goto (tgt := 33) hx hb dX10_planned_102 (by decide) ?_
              exact ih s3 x1 x2 x3 x4 x5 x6 x7 x8 x9 (x10 + 1) h hw (lv_sub hl [2, 3, 4, 5, 6, 7, 8, 9, 10, 11, 0] rfl)
            · have h := if_f c7 h
              exact w_X10_planned_91   S hr hlocks hE (fun σ x1 x2 x3 x4 x5 x6 x7 x8 x9 x10  _ _ h _ _ _ hw hl => ih σ x1 x2 x3 x4 x5 x6 x7 x8 x9 x10  h hw hl)  s3 x1 x2 x3 x4 x5 x6 x7 x10 v2 h hw (lv_sub hl [1, 2, 3, 4, 5, 6, 7, 8, 11, 0] rfl)
          · have h := if_f c6 h
            refine lv_iload hx hb dX10_planned_74 (lv_at hl 0 rfl) ?_
            refine lv_iload hx hb dX10_planned_76 (lv_at hl 9 rfl) ?_
            refine lv_icmp_le (tgt := 99) hx hb dX10_planned_78 (by decide) (fun c8 => ?_) (fun c8 => ?_)
            · have h := if_t c8 h
              refine lv_iinc (v := x10 + 1) (lv' := [(10, .int (x10 + 1)), (11, .int v2), (0, .ref (ad G 72)), (1, .int x1), (2, .int x2), (3, .int x3), (4, .int x4), (5, .int x5), (6, .int x6), (7, .int x7), (8, .int x8), (9, .int x9)]) hx hb dX10_planned_99 hl (k := 11) rfl rfl (by decide) rfl (fun ls hl => ?_)
              refine lv_goto (tgt := 33) hx hb dX10_planned_102 (by decide) ?_
              exact ih s3 x1 x2 x3 x4 x5 x6 x7 x8 x9 (x10 + 1) h hw (lv_sub hl [2, 3, 4, 5, 6, 7, 8, 9, 10, 11, 0] rfl)
            · have h := if_f c8 h
              refine lv_goto (tgt := 91) hx hb dX10_planned_81 (by decide) ?_
              exact w_X10_planned_91   S hr hlocks hE (fun σ x1 x2 x3 x4 x5 x6 x7 x8 x9 x10  _ _ h _ _ _ hw hl => ih σ x1 x2 x3 x4 x5 x6 x7 x8 x9 x10  h hw hl)  s3 x1 x2 x3 x4 x5 x6 x7 x10 v2 h hw (lv_sub hl [1, 2, 3, 4, 5, 6, 7, 8, 11, 0] rfl)

def f_X10_planned_24 (σ : St) (x1 : Int32) (x2 : Int32) (x3 : Int32) (x4 : Int32) (x5 : Int32) (x6 : Int32) (x7 : Int32) : Option (Int32 × St) := f_X10_planned_33 10000 σ x1 x2 x3 x4 x5 x6 x7 (-1) (-1) 0
set_option maxRecDepth 100000 in
set_option maxHeartbeats 4000000 in
theorem w_X10_planned_24 {p : Program} {l : Launch} {e : Env} {s : State} {m : MethodId} {args : Array Value} {below : List Frame} {meth : Method} {c : Code} {G : Gp} {A : Nat → Prop} (S : CallFix p m c cX10_planned 12 s args wsX10_planned RX10) (hr : meth.sig.returnType = (some .int)) (hlocks : meth.locks = false) (hE : Ev G A s) (σ : St) (x1 : Int32) (x2 : Int32) (x3 : Int32) (x4 : Int32) (x5 : Int32) (x6 : Int32) (x7 : Int32) {r : Int32} {σ' : St} (h : f_X10_planned_24   σ x1 x2 x3 x4 x5 x6 x7 = some (r, σ')) {H : Heap} {locs : List Loc} {ls : Array Slot} (hw : Ww G A σ s H locs) (hl : lv_has ls 12 [(0, .ref (ad G 72)), (1, .int x1), (2, .int x2), (3, .int x3), (4, .int x4), (5, .int x5), (6, .int x6), (7, .int x7)]) : W p l e (rmd 5) s m args below meth c H locs 0 0 (Qi below args s G A r σ') (F0 m 24 ls []) := by
  obtain ⟨hx, hb, hml, hown, hts⟩ := id S
  unfold f_X10_planned_24 at h
  refine lv_iconst (v := (-1)) hx hb dX10_planned_24 (by decide) ?_
  refine lv_istore (lv' := [(8, .int (-1)), (0, .ref (ad G 72)), (1, .int x1), (2, .int x2), (3, .int x3), (4, .int x4), (5, .int x5), (6, .int x6), (7, .int x7)]) hx hb dX10_planned_25 hl (by decide) rfl (fun ls hl => ?_)
  refine lv_iconst (v := (-1)) hx hb dX10_planned_27 (by decide) ?_
  refine lv_istore (lv' := [(9, .int (-1)), (8, .int (-1)), (0, .ref (ad G 72)), (1, .int x1), (2, .int x2), (3, .int x3), (4, .int x4), (5, .int x5), (6, .int x6), (7, .int x7)]) hx hb dX10_planned_28 hl (by decide) rfl (fun ls hl => ?_)
  refine lv_iconst (v := 0) hx hb dX10_planned_30 (by decide) ?_
  refine lv_istore (lv' := [(10, .int 0), (9, .int (-1)), (8, .int (-1)), (0, .ref (ad G 72)), (1, .int x1), (2, .int x2), (3, .int x3), (4, .int x4), (5, .int x5), (6, .int x6), (7, .int x7)]) hx hb dX10_planned_31 hl (by decide) rfl (fun ls hl => ?_)
  exact w_X10_planned_33   S hr hlocks hE  10000 σ x1 x2 x3 x4 x5 x6 x7 (-1) (-1) 0 h hw (lv_sub hl [3, 4, 5, 6, 7, 8, 9, 10, 2, 1, 0] rfl)

def f_X10_planned_6 : Nat → St → Int32 → Int32 → Int32 → Int32 → Int32 → Int32 → Int32 → Int32 → Option (Int32 × St)
  | 0, _, _, _, _, _, _, _, _, _ => none
  | n + 1, σ, x1, x2, x3, x4, x5, x6, x7, x8 => if x2 ≤ x8 then (f_X10_planned_24 σ x1 x2 x3 x4 x5 x6 x7) else (f_X10_planned_6 n σ x1 x2 x3 x4 x5 x6 (3 * x7) (x8 + 1))
set_option maxRecDepth 100000 in
set_option maxHeartbeats 4000000 in
theorem w_X10_planned_6 {p : Program} {l : Launch} {e : Env} {s : State} {m : MethodId} {args : Array Value} {below : List Frame} {meth : Method} {c : Code} {G : Gp} {A : Nat → Prop} (S : CallFix p m c cX10_planned 12 s args wsX10_planned RX10) (hr : meth.sig.returnType = (some .int)) (hlocks : meth.locks = false) (hE : Ev G A s) (n : Nat) (σ : St) (x1 : Int32) (x2 : Int32) (x3 : Int32) (x4 : Int32) (x5 : Int32) (x6 : Int32) (x7 : Int32) (x8 : Int32) {r : Int32} {σ' : St} (h : f_X10_planned_6   n σ x1 x2 x3 x4 x5 x6 x7 x8 = some (r, σ')) {H : Heap} {locs : List Loc} {ls : Array Slot} (hw : Ww G A σ s H locs) (hl : lv_has ls 12 [(0, .ref (ad G 72)), (1, .int x1), (2, .int x2), (3, .int x3), (4, .int x4), (5, .int x5), (6, .int x6), (7, .int x7), (8, .int x8)]) : W p l e (rmd 5) s m args below meth c H locs 0 0 (Qi below args s G A r σ') (F0 m 6 ls []) := by
  obtain ⟨hx, hb, hml, hown, hts⟩ := id S
  induction n generalizing σ x1 x2 x3 x4 x5 x6 x7 x8 r σ' H locs ls with
  | zero => cases h
  | succ n ih =>
    unfold f_X10_planned_6 at h
    refine lv_iload hx hb dX10_planned_6 (lv_at hl 8 rfl) ?_
    refine lv_iload_n hx hb dX10_planned_8 rfl (lv_at hl 2 rfl) ?_
    refine lv_icmp_ge (tgt := 24) hx hb dX10_planned_9 (by decide) (fun c1 => ?_) (fun c1 => ?_)
    · have h := if_t c1 h
      exact w_X10_planned_24   S hr hlocks hE   σ x1 x2 x3 x4 x5 x6 x7 h hw (lv_sub hl [0, 1, 2, 3, 4, 5, 6, 7] rfl)
    · have h := if_f c1 h
      refine lv_iconst (v := 3) hx hb dX10_planned_12 (by decide) ?_
      refine lv_iload hx hb dX10_planned_13 (lv_at hl 7 rfl) ?_
      refine lv_imul hx hb dX10_planned_15 ?_
      refine lv_istore (lv' := [(7, .int (3 * x7)), (0, .ref (ad G 72)), (1, .int x1), (2, .int x2), (3, .int x3), (4, .int x4), (5, .int x5), (6, .int x6), (8, .int x8)]) hx hb dX10_planned_16 hl (by decide) rfl (fun ls hl => ?_)
      refine lv_iinc (v := x8 + 1) (lv' := [(8, .int (x8 + 1)), (7, .int (3 * x7)), (0, .ref (ad G 72)), (1, .int x1), (2, .int x2), (3, .int x3), (4, .int x4), (5, .int x5), (6, .int x6)]) hx hb dX10_planned_18 hl (k := 8) rfl rfl (by decide) rfl (fun ls hl => ?_)
      refine lv_goto (tgt := 6) hx hb dX10_planned_21 (by decide) ?_
      exact ih σ x1 x2 x3 x4 x5 x6 (3 * x7) (x8 + 1) h hw (lv_sub hl [2, 3, 4, 5, 6, 7, 8, 1, 0] rfl)

def f_X10_planned (σ : St) (p1 : Int32) (p2 : Int32) (p3 : Int32) (p4 : Int32) (p5 : Int32) (p6 : Int32) : Option (Int32 × St) := f_X10_planned_6 10000 σ p1 p2 p3 p4 p5 p6 1 0
set_option maxRecDepth 100000 in
set_option maxHeartbeats 4000000 in
theorem c_X10_planned (l : Launch) (G : Gp) (A : Nat → Prop) (σ : St) (p1 : Int32) (p2 : Int32) (p3 : Int32) (p4 : Int32) (p5 : Int32) (p6 : Int32) {r : Int32} {σ' : St} (h : f_X10_planned σ p1 p2 p3 p4 p5 p6 = some (r, σ')) : Ki l yX10_planned wsX10_planned 5 G A [.ref (ad G 72), .int p1, .int p2, .int p3, .int p4, .int p5, .int p6] σ r σ' := by
  unfold f_X10_planned at h
  refine r_start (ws := wsX10_planned) (d := 5) (by decide) rfl [.ref (ad G 72), .int p1, .int p2, .int p3, .int p4, .int p5, .int p6] (Nat.le_of_ble_eq_true rfl) ?_
  intro p e s m below meth c S hr hlocks hE hw ls hl
  have hl : lv_has ls 12 [(0, .ref (ad G 72)), (1, .int p1), (2, .int p2), (3, .int p3), (4, .int p4), (5, .int p5), (6, .int p6)] := hl
  obtain ⟨hx, hb, hml, hown, hts⟩ := id S
  refine lv_iconst (v := 1) hx hb dX10_planned_0 (by decide) ?_
  refine lv_istore (lv' := [(7, .int 1), (0, .ref (ad G 72)), (1, .int p1), (2, .int p2), (3, .int p3), (4, .int p4), (5, .int p5), (6, .int p6)]) hx hb dX10_planned_1 hl (by decide) rfl (fun ls hl => ?_)
  refine lv_iconst (v := 0) hx hb dX10_planned_3 (by decide) ?_
  refine lv_istore (lv' := [(8, .int 0), (7, .int 1), (0, .ref (ad G 72)), (1, .int p1), (2, .int p2), (3, .int p3), (4, .int p4), (5, .int p5), (6, .int p6)]) hx hb dX10_planned_4 hl (by decide) rfl (fun ls hl => ?_)
  exact w_X10_planned_6   S hr hlocks hE  10000 σ p1 p2 p3 p4 p5 p6 1 0 h hw (lv_sub hl [2, 3, 4, 5, 6, 7, 8, 1, 0] rfl)


theorem mf59_X10_plan : Cond.fieldLink RX10 59 "GasVoyagesModel" "landed" "[Z" ∈ wsX10_plan := by decide +kernel
set_option maxRecDepth 20000 in
theorem iw10_X10_plan : ∀ w ∈ u_ws RX10 TX10 43, w ∈ wsX10_plan := by decide +kernel
def f_X10_plan (σ : St) (p1 : Int32) (p2 : Int32) (p3 : Int32) (p4 : Int32) (p5 : Int32) : Option (Int32 × St) := if (f_X10_isFlight σ p1) = 0 then (some ((-2), σ)) else (if (f_X10_in p2 1 6) = 0 then (some ((-2), σ)) else (if (f_X10_in p3 1 50) = 0 then (some ((-2), σ)) else (if (f_X10_isCell σ p4 p5) = 0 then (some ((-2), σ)) else (Option.bind (aL σ 87 8 p1) fun v9 => if v9 = 0 then (oB2 (f_X10_planned σ p1 p2 p3 p4 p5 0) fun v11 s12 => some (v11, s12)) else (some ((-3), σ))))))
set_option maxRecDepth 100000 in
set_option maxHeartbeats 4000000 in
theorem c_X10_plan (l : Launch) (G : Gp) (A : Nat → Prop) (σ : St) (p1 : Int32) (p2 : Int32) (p3 : Int32) (p4 : Int32) (p5 : Int32) {r : Int32} {σ' : St} (h : f_X10_plan σ p1 p2 p3 p4 p5 = some (r, σ')) : Ki l yX10_plan wsX10_plan 6 G A [.ref (ad G 72), .int p1, .int p2, .int p3, .int p4, .int p5] σ r σ' := by
  unfold f_X10_plan at h
  refine r_start (ws := wsX10_plan) (d := 6) (by decide) rfl [.ref (ad G 72), .int p1, .int p2, .int p3, .int p4, .int p5] (Nat.le_of_ble_eq_true rfl) ?_
  intro p e s m below meth c S hr hlocks hE hw ls hl
  have hl : lv_has ls 6 [(0, .ref (ad G 72)), (1, .int p1), (2, .int p2), (3, .int p3), (4, .int p4), (5, .int p5)] := hl
  obtain ⟨hx, hb, hml, hown, hts⟩ := id S
  refine lv_aload_n hx hb dX10_plan_0 rfl (lv_at hl 0 rfl) ?_
  refine lv_iload_n hx hb dX10_plan_1 rfl (lv_at hl 1 rfl) ?_
  refine r_cz (r_runV (k := 72) (ci := 10) (As := [.int p1]) (rest := []) S hE hw (c_X10_isFlight  l G A σ p1) (cwV 1 hts gX10_plan_X10_isFlight rfl rfl rfl (by decide +kernel) ⟨Nat.le_of_ble_eq_true rfl, Nat.le_of_ble_eq_true rfl⟩) rfl rfl (by decide) rfl hl.1 rfl (Nat.le_of_ble_eq_true rfl) ⟨Nat.zero_le _, Nat.zero_le _⟩ dX10_plan_2) hw (fun H locs hw hb1 => ?_)
  refine lv_if_eq (tgt := 39) hx hb dX10_plan_5 (by decide) (fun c2 => ?_) (fun c2 => ?_)
  · have h := if_t c2 h
    refine lv_bipush (v := (-2)) hx hb dX10_plan_39 (by decide) ?_
    obtain ⟨rfl, rfl⟩ := rt2 h
    exact r_iret S hr hlocks hw dX10_plan_41
  · have h := if_f c2 h
    refine lv_iload_n hx hb dX10_plan_8 rfl (lv_at hl 2 rfl) ?_
    refine lv_iconst (v := 1) hx hb dX10_plan_9 (by decide) ?_
    refine lv_bipush (v := 6) hx hb dX10_plan_10 (by decide) ?_
    refine r_cz (r_runS (As := [.int p2, .int 1, .int 6]) (rest := []) S hE hw (c_X10_in  l G A σ p2 1 6) (va_cwS 3 hts gX10_plan_X10_in rfl rfl rfl (by decide +kernel) ⟨Nat.le_of_ble_eq_true rfl, Nat.le_of_ble_eq_true rfl⟩) rfl hl.1 rfl (Nat.le_of_ble_eq_true rfl) ⟨Nat.zero_le _, Nat.zero_le _⟩ dX10_plan_12) hw (fun H locs hw hb3 => ?_)
    refine lv_if_eq (tgt := 39) hx hb dX10_plan_15 (by decide) (fun c4 => ?_) (fun c4 => ?_)
    · have h := if_t c4 h
      refine lv_bipush (v := (-2)) hx hb dX10_plan_39 (by decide) ?_
      obtain ⟨rfl, rfl⟩ := rt2 h
      exact r_iret S hr hlocks hw dX10_plan_41
    · have h := if_f c4 h
      refine lv_iload_n hx hb dX10_plan_18 rfl (lv_at hl 3 rfl) ?_
      refine lv_iconst (v := 1) hx hb dX10_plan_19 (by decide) ?_
      refine lv_bipush (v := 50) hx hb dX10_plan_20 (by decide) ?_
      refine r_cz (r_runS (As := [.int p3, .int 1, .int 50]) (rest := []) S hE hw (c_X10_in  l G A σ p3 1 50) (va_cwS 3 hts gX10_plan_X10_in rfl rfl rfl (by decide +kernel) ⟨Nat.le_of_ble_eq_true rfl, Nat.le_of_ble_eq_true rfl⟩) rfl hl.1 rfl (Nat.le_of_ble_eq_true rfl) ⟨Nat.zero_le _, Nat.zero_le _⟩ dX10_plan_22) hw (fun H locs hw hb5 => ?_)
      refine lv_if_eq (tgt := 39) hx hb dX10_plan_25 (by decide) (fun c6 => ?_) (fun c6 => ?_)
      · have h := if_t c6 h
        refine lv_bipush (v := (-2)) hx hb dX10_plan_39 (by decide) ?_
        obtain ⟨rfl, rfl⟩ := rt2 h
        exact r_iret S hr hlocks hw dX10_plan_41
      · have h := if_f c6 h
        refine lv_aload_n hx hb dX10_plan_28 rfl (lv_at hl 0 rfl) ?_
        refine lv_iload hx hb dX10_plan_29 (lv_at hl 4 rfl) ?_
        refine lv_iload hx hb dX10_plan_31 (lv_at hl 5 rfl) ?_
        refine r_cz (r_runV (k := 72) (ci := 10) (As := [.int p4, .int p5]) (rest := []) S hE hw (c_X10_isCell  l G A σ p4 p5) (cwV 2 hts gX10_plan_X10_isCell rfl rfl rfl (by decide +kernel) ⟨Nat.le_of_ble_eq_true rfl, Nat.le_of_ble_eq_true rfl⟩) rfl rfl (by decide) rfl hl.1 rfl (Nat.le_of_ble_eq_true rfl) ⟨Nat.zero_le _, Nat.zero_le _⟩ dX10_plan_33) hw (fun H locs hw hb7 => ?_)
        refine lv_if_ne (tgt := 42) hx hb dX10_plan_36 (by decide) (fun c8 => ?_) (fun c8 => ?_)
        · have h := if_f c8 h
          refine lv_aload_n hx hb dX10_plan_42 rfl (lv_at hl 0 rfl) ?_
          refine r_gr S hE hw 17 87 iw10_X10_plan rfl rfl (by decide) rfl (hts _ mf59_X10_plan) dX10_plan_43 ?_
          refine lv_iload_n hx hb dX10_plan_46 rfl (lv_at hl 1 rfl) ?_
          obtain ⟨v9, gv9, h⟩ := oB_out h
          refine r_zl S hE hw rfl rfl gv9 dX10_plan_47 ?_
          refine lv_if_eq (tgt := 56) hx hb dX10_plan_48 (by decide) (fun c10 => ?_) (fun c10 => ?_)
          · have h := if_t c10 h
            refine lv_aload_n hx hb dX10_plan_56 rfl (lv_at hl 0 rfl) ?_
            refine lv_iload_n hx hb dX10_plan_57 rfl (lv_at hl 1 rfl) ?_
            refine lv_iload_n hx hb dX10_plan_58 rfl (lv_at hl 2 rfl) ?_
            refine lv_iload_n hx hb dX10_plan_59 rfl (lv_at hl 3 rfl) ?_
            refine lv_iload hx hb dX10_plan_60 (lv_at hl 4 rfl) ?_
            refine lv_iload hx hb dX10_plan_62 (lv_at hl 5 rfl) ?_
            refine lv_iconst (v := 0) hx hb dX10_plan_64 (by decide) ?_
            obtain ⟨v11, s12, gv11, h⟩ := oB2_out h
            refine r_ci (r_runV (k := 72) (ci := 10) (As := [.int p1, .int p2, .int p3, .int p4, .int p5, .int 0]) (rest := []) S hE hw (c_X10_planned  l G A σ p1 p2 p3 p4 p5 0 gv11) (cwV 6 hts gX10_plan_X10_planned rfl rfl rfl (by decide +kernel) ⟨Nat.le_of_ble_eq_true rfl, Nat.le_of_ble_eq_true rfl⟩) rfl rfl (by decide) rfl hl.1 rfl (Nat.le_of_ble_eq_true rfl) ⟨Nat.zero_le _, Nat.zero_le _⟩ dX10_plan_65) hw (fun H locs hw => ?_)
            obtain ⟨rfl, rfl⟩ := rt2 h
            exact r_iret S hr hlocks hw dX10_plan_68
          · have h := if_f c10 h
            refine lv_bipush (v := (-3)) hx hb dX10_plan_51 (by decide) ?_
            refine lv_goto (tgt := 68) hx hb dX10_plan_53 (by decide) ?_
            obtain ⟨rfl, rfl⟩ := rt2 h
            exact r_iret S hr hlocks hw dX10_plan_68
        · have h := if_t c8 h
          refine lv_bipush (v := (-2)) hx hb dX10_plan_39 (by decide) ?_
          obtain ⟨rfl, rfl⟩ := rt2 h
          exact r_iret S hr hlocks hw dX10_plan_41


theorem mf59_X10_away : Cond.fieldLink RX10 59 "GasVoyagesModel" "landed" "[Z" ∈ wsX10_away := by decide +kernel
set_option maxRecDepth 20000 in
theorem iw10_X10_away : ∀ w ∈ u_ws RX10 TX10 43, w ∈ wsX10_away := by decide +kernel
theorem mf69_X10_away : Cond.fieldLink RX10 69 "GasVoyagesModel" "logCell" "[I" ∈ wsX10_away := by decide +kernel
def f_X10_away (σ : St) (p1 : Int32) (p2 : Int32) (p3 : Int32) : Option (Int32 × St) := if (f_X10_isFlight σ p1) = 0 then (some ((-2), σ)) else (if (f_X10_in p2 1 6) = 0 then (some ((-2), σ)) else (if (f_X10_in p3 1 50) = 0 then (some ((-2), σ)) else (Option.bind (aL σ 87 8 p1) fun v7 => if v7 = 0 then (Option.bind (aL σ 90 488 (61 * p1)) fun v9 => Option.bind (aL σ 90 488 (61 * p1)) fun v10 => oB2 (f_X10_planned σ p1 p2 p3 (v9 - v9 / 24 * 24) (v10 / 24) 1) fun v11 s12 => some (v11, s12)) else (some ((-3), σ)))))
set_option maxRecDepth 100000 in
set_option maxHeartbeats 4000000 in
theorem c_X10_away (l : Launch) (G : Gp) (A : Nat → Prop) (σ : St) (p1 : Int32) (p2 : Int32) (p3 : Int32) {r : Int32} {σ' : St} (h : f_X10_away σ p1 p2 p3 = some (r, σ')) : Ki l yX10_away wsX10_away 6 G A [.ref (ad G 72), .int p1, .int p2, .int p3] σ r σ' := by
  unfold f_X10_away at h
  refine r_start (ws := wsX10_away) (d := 6) (by decide) rfl [.ref (ad G 72), .int p1, .int p2, .int p3] (Nat.le_of_ble_eq_true rfl) ?_
  intro p e s m below meth c S hr hlocks hE hw ls hl
  have hl : lv_has ls 4 [(0, .ref (ad G 72)), (1, .int p1), (2, .int p2), (3, .int p3)] := hl
  obtain ⟨hx, hb, hml, hown, hts⟩ := id S
  refine lv_aload_n hx hb dX10_away_0 rfl (lv_at hl 0 rfl) ?_
  refine lv_iload_n hx hb dX10_away_1 rfl (lv_at hl 1 rfl) ?_
  refine r_cz (r_runV (k := 72) (ci := 10) (As := [.int p1]) (rest := []) S hE hw (c_X10_isFlight  l G A σ p1) (cwV 1 hts gX10_away_X10_isFlight rfl rfl rfl (by decide +kernel) ⟨Nat.le_of_ble_eq_true rfl, Nat.le_of_ble_eq_true rfl⟩) rfl rfl (by decide) rfl hl.1 rfl (Nat.le_of_ble_eq_true rfl) ⟨Nat.zero_le _, Nat.zero_le _⟩ dX10_away_2) hw (fun H locs hw hb1 => ?_)
  refine lv_if_eq (tgt := 28) hx hb dX10_away_5 (by decide) (fun c2 => ?_) (fun c2 => ?_)
  · have h := if_t c2 h
    refine lv_bipush (v := (-2)) hx hb dX10_away_28 (by decide) ?_
    obtain ⟨rfl, rfl⟩ := rt2 h
    exact r_iret S hr hlocks hw dX10_away_30
  · have h := if_f c2 h
    refine lv_iload_n hx hb dX10_away_8 rfl (lv_at hl 2 rfl) ?_
    refine lv_iconst (v := 1) hx hb dX10_away_9 (by decide) ?_
    refine lv_bipush (v := 6) hx hb dX10_away_10 (by decide) ?_
    refine r_cz (r_runS (As := [.int p2, .int 1, .int 6]) (rest := []) S hE hw (c_X10_in  l G A σ p2 1 6) (va_cwS 3 hts gX10_away_X10_in rfl rfl rfl (by decide +kernel) ⟨Nat.le_of_ble_eq_true rfl, Nat.le_of_ble_eq_true rfl⟩) rfl hl.1 rfl (Nat.le_of_ble_eq_true rfl) ⟨Nat.zero_le _, Nat.zero_le _⟩ dX10_away_12) hw (fun H locs hw hb3 => ?_)
    refine lv_if_eq (tgt := 28) hx hb dX10_away_15 (by decide) (fun c4 => ?_) (fun c4 => ?_)
    · have h := if_t c4 h
      refine lv_bipush (v := (-2)) hx hb dX10_away_28 (by decide) ?_
      obtain ⟨rfl, rfl⟩ := rt2 h
      exact r_iret S hr hlocks hw dX10_away_30
    · have h := if_f c4 h
      refine lv_iload_n hx hb dX10_away_18 rfl (lv_at hl 3 rfl) ?_
      refine lv_iconst (v := 1) hx hb dX10_away_19 (by decide) ?_
      refine lv_bipush (v := 50) hx hb dX10_away_20 (by decide) ?_
      refine r_cz (r_runS (As := [.int p3, .int 1, .int 50]) (rest := []) S hE hw (c_X10_in  l G A σ p3 1 50) (va_cwS 3 hts gX10_away_X10_in rfl rfl rfl (by decide +kernel) ⟨Nat.le_of_ble_eq_true rfl, Nat.le_of_ble_eq_true rfl⟩) rfl hl.1 rfl (Nat.le_of_ble_eq_true rfl) ⟨Nat.zero_le _, Nat.zero_le _⟩ dX10_away_22) hw (fun H locs hw hb5 => ?_)
      refine lv_if_ne (tgt := 31) hx hb dX10_away_25 (by decide) (fun c6 => ?_) (fun c6 => ?_)
      · have h := if_f c6 h
        refine lv_aload_n hx hb dX10_away_31 rfl (lv_at hl 0 rfl) ?_
        refine r_gr S hE hw 17 87 iw10_X10_away rfl rfl (by decide) rfl (hts _ mf59_X10_away) dX10_away_32 ?_
        refine lv_iload_n hx hb dX10_away_35 rfl (lv_at hl 1 rfl) ?_
        obtain ⟨v7, gv7, h⟩ := oB_out h
        refine r_zl S hE hw rfl rfl gv7 dX10_away_36 ?_
        refine lv_if_eq (tgt := 45) hx hb dX10_away_37 (by decide) (fun c8 => ?_) (fun c8 => ?_)
        · have h := if_t c8 h
          refine lv_aload_n hx hb dX10_away_45 rfl (lv_at hl 0 rfl) ?_
          refine lv_iload_n hx hb dX10_away_46 rfl (lv_at hl 1 rfl) ?_
          refine lv_iload_n hx hb dX10_away_47 rfl (lv_at hl 2 rfl) ?_
          refine lv_iload_n hx hb dX10_away_48 rfl (lv_at hl 3 rfl) ?_
          refine lv_aload_n hx hb dX10_away_49 rfl (lv_at hl 0 rfl) ?_
          refine r_gr S hE hw 20 90 iw10_X10_away rfl rfl (by decide) rfl (hts _ mf69_X10_away) dX10_away_50 ?_
          refine lv_bipush (v := 61) hx hb dX10_away_53 (by decide) ?_
          refine lv_iload_n hx hb dX10_away_55 rfl (lv_at hl 1 rfl) ?_
          refine lv_imul hx hb dX10_away_56 ?_
          obtain ⟨v9, gv9, h⟩ := oB_out h
          refine r_al S hE hw rfl rfl gv9 dX10_away_57 ?_
          refine lv_bipush (v := 24) hx hb dX10_away_58 (by decide) ?_
          refine lv_irem hx hb dX10_away_60 (by decide) ?_
          refine lv_aload_n hx hb dX10_away_61 rfl (lv_at hl 0 rfl) ?_
          refine r_gr S hE hw 20 90 iw10_X10_away rfl rfl (by decide) rfl (hts _ mf69_X10_away) dX10_away_62 ?_
          refine lv_bipush (v := 61) hx hb dX10_away_65 (by decide) ?_
          refine lv_iload_n hx hb dX10_away_67 rfl (lv_at hl 1 rfl) ?_
          refine lv_imul hx hb dX10_away_68 ?_
          obtain ⟨v10, gv10, h⟩ := oB_out h
          refine r_al S hE hw rfl rfl gv10 dX10_away_69 ?_
          refine lv_bipush (v := 24) hx hb dX10_away_70 (by decide) ?_
          refine lv_idiv hx hb dX10_away_72 (by decide) ?_
          refine lv_iconst (v := 1) hx hb dX10_away_73 (by decide) ?_
          obtain ⟨v11, s12, gv11, h⟩ := oB2_out h
          refine r_ci (r_runV (k := 72) (ci := 10) (As := [.int p1, .int p2, .int p3, .int (v9 - v9 / 24 * 24), .int (v10 / 24), .int 1]) (rest := []) S hE hw (c_X10_planned  l G A σ p1 p2 p3 (v9 - v9 / 24 * 24) (v10 / 24) 1 gv11) (cwV 6 hts gX10_away_X10_planned rfl rfl rfl (by decide +kernel) ⟨Nat.le_of_ble_eq_true rfl, Nat.le_of_ble_eq_true rfl⟩) rfl rfl (by decide) rfl hl.1 rfl (Nat.le_of_ble_eq_true rfl) ⟨Nat.zero_le _, Nat.zero_le _⟩ dX10_away_74) hw (fun H locs hw => ?_)
          obtain ⟨rfl, rfl⟩ := rt2 h
          exact r_iret S hr hlocks hw dX10_away_77
        · have h := if_f c8 h
          refine lv_bipush (v := (-3)) hx hb dX10_away_40 (by decide) ?_
          refine lv_goto (tgt := 77) hx hb dX10_away_42 (by decide) ?_
          obtain ⟨rfl, rfl⟩ := rt2 h
          exact r_iret S hr hlocks hw dX10_away_77
      · have h := if_t c6 h
        refine lv_bipush (v := (-2)) hx hb dX10_away_28 (by decide) ?_
        obtain ⟨rfl, rfl⟩ := rt2 h
        exact r_iret S hr hlocks hw dX10_away_30


theorem mf176_X10_order : Cond.fieldLink RX10 176 "GasVoyagesModel" "planMany" "I" ∈ wsX10_order := by decide +kernel
set_option maxRecDepth 20000 in
theorem iw10_X10_order : ∀ w ∈ u_ws RX10 TX10 43, w ∈ wsX10_order := by decide +kernel
theorem mf87_X10_order : Cond.fieldLink RX10 87 "GasVoyagesModel" "plan" "[I" ∈ wsX10_order := by decide +kernel
def f_X10_order (σ : St) (p1 : Int32) : Option Int32 := if (f_X10_in p1 0 ((σ.1 72 28) - 1)) = 0 then (some (-1)) else (Option.bind (aL σ 96 6 p1) fun v3 => some v3)
set_option maxRecDepth 100000 in
set_option maxHeartbeats 4000000 in
theorem c_X10_order (l : Launch) (G : Gp) (A : Nat → Prop) (σ : St) (p1 : Int32) {r : Int32} (h : f_X10_order σ p1 = some r) : Ki l yX10_order wsX10_order 1 G A [.ref (ad G 72), .int p1] σ r σ := by
  unfold f_X10_order at h
  refine r_start (ws := wsX10_order) (d := 1) (by decide) rfl [.ref (ad G 72), .int p1] (Nat.le_of_ble_eq_true rfl) ?_
  intro p e s m below meth c S hr hlocks hE hw ls hl
  have hl : lv_has ls 2 [(0, .ref (ad G 72)), (1, .int p1)] := hl
  obtain ⟨hx, hb, hml, hown, hts⟩ := id S
  refine lv_iload_n hx hb dX10_order_0 rfl (lv_at hl 1 rfl) ?_
  refine lv_iconst (v := 0) hx hb dX10_order_1 (by decide) ?_
  refine lv_aload_n hx hb dX10_order_2 rfl (lv_at hl 0 rfl) ?_
  refine r_gi S hE hw 28 iw10_X10_order rfl rfl (by decide) (hts _ mf176_X10_order) dX10_order_3 ?_
  refine lv_iconst (v := 1) hx hb dX10_order_6 (by decide) ?_
  refine lv_isub hx hb dX10_order_7 ?_
  refine r_cz (r_runS (As := [.int p1, .int 0, .int ((σ.1 72 28) - 1)]) (rest := []) S hE hw (c_X10_in  l G A σ p1 0 ((σ.1 72 28) - 1)) (va_cwS 3 hts gX10_order_X10_in rfl rfl rfl (by decide +kernel) ⟨Nat.le_of_ble_eq_true rfl, Nat.le_of_ble_eq_true rfl⟩) rfl hl.1 rfl (Nat.le_of_ble_eq_true rfl) ⟨Nat.zero_le _, Nat.zero_le _⟩ dX10_order_8) hw (fun H locs hw hb1 => ?_)
  refine lv_if_eq (tgt := 23) hx hb dX10_order_11 (by decide) (fun c2 => ?_) (fun c2 => ?_)
  · have h := if_t c2 h
    refine lv_iconst (v := (-1)) hx hb dX10_order_23 (by decide) ?_
    obtain rfl := Option.some.inj h
    exact r_iret S hr hlocks hw dX10_order_24
  · have h := if_f c2 h
    refine lv_aload_n hx hb dX10_order_14 rfl (lv_at hl 0 rfl) ?_
    refine r_gr S hE hw 27 96 iw10_X10_order rfl rfl (by decide) rfl (hts _ mf87_X10_order) dX10_order_15 ?_
    refine lv_iload_n hx hb dX10_order_18 rfl (lv_at hl 1 rfl) ?_
    obtain ⟨v3, gv3, h⟩ := oB_out h
    refine r_al S hE hw rfl rfl gv3 dX10_order_19 ?_
    refine lv_goto (tgt := 24) hx hb dX10_order_20 (by decide) ?_
    obtain rfl := Option.some.inj h
    exact r_iret S hr hlocks hw dX10_order_24


theorem mf66_X10_entry : Cond.fieldLink RX10 66 "GasVoyagesModel" "entries" "[I" ∈ wsX10_entry := by decide +kernel
set_option maxRecDepth 20000 in
theorem iw10_X10_entry : ∀ w ∈ u_ws RX10 TX10 43, w ∈ wsX10_entry := by decide +kernel
theorem mf75_X10_entry : Cond.fieldLink RX10 75 "GasVoyagesModel" "lost" "[Z" ∈ wsX10_entry := by decide +kernel
theorem mf72_X10_entry : Cond.fieldLink RX10 72 "GasVoyagesModel" "logLevel" "[I" ∈ wsX10_entry := by decide +kernel
theorem mf69_X10_entry : Cond.fieldLink RX10 69 "GasVoyagesModel" "logCell" "[I" ∈ wsX10_entry := by decide +kernel
def f_X10_entry (σ : St) (p1 : Int32) (p2 : Int32) (p3 : Int32) : Option Int32 := if (f_X10_isFlight σ p1) = 0 then (some (-2)) else (if (f_X10_in p3 0 2) = 0 then (some (-2)) else (Option.bind (aL σ 89 8 p1) fun v5 => if (f_X10_in p2 0 (v5 - 1)) = 0 then (some (-1)) else (Option.bind (aL σ 92 488 ((61 * p1) + p2)) fun v8 => if v8 = 0 then (if p3 = 0 then (Option.bind (aL σ 90 488 ((61 * p1) + p2)) fun v14 => some (v14 - v14 / 24 * 24)) else (if p3 = 1 then (Option.bind (aL σ 90 488 ((61 * p1) + p2)) fun v13 => some (v13 / 24)) else (Option.bind (aL σ 91 488 ((61 * p1) + p2)) fun v12 => some v12))) else (some (-1)))))
set_option maxRecDepth 100000 in
set_option maxHeartbeats 4000000 in
theorem c_X10_entry (l : Launch) (G : Gp) (A : Nat → Prop) (σ : St) (p1 : Int32) (p2 : Int32) (p3 : Int32) {r : Int32} (h : f_X10_entry σ p1 p2 p3 = some r) : Ki l yX10_entry wsX10_entry 2 G A [.ref (ad G 72), .int p1, .int p2, .int p3] σ r σ := by
  unfold f_X10_entry at h
  refine r_start (ws := wsX10_entry) (d := 2) (by decide) rfl [.ref (ad G 72), .int p1, .int p2, .int p3] (Nat.le_of_ble_eq_true rfl) ?_
  intro p e s m below meth c S hr hlocks hE hw ls hl
  have hl : lv_has ls 4 [(0, .ref (ad G 72)), (1, .int p1), (2, .int p2), (3, .int p3)] := hl
  obtain ⟨hx, hb, hml, hown, hts⟩ := id S
  refine lv_aload_n hx hb dX10_entry_0 rfl (lv_at hl 0 rfl) ?_
  refine lv_iload_n hx hb dX10_entry_1 rfl (lv_at hl 1 rfl) ?_
  refine r_cz (r_runV (k := 72) (ci := 10) (As := [.int p1]) (rest := []) S hE hw (c_X10_isFlight  l G A σ p1) (cwV 1 hts gX10_entry_X10_isFlight rfl rfl rfl (by decide +kernel) ⟨Nat.le_of_ble_eq_true rfl, Nat.le_of_ble_eq_true rfl⟩) rfl rfl (by decide) rfl hl.1 rfl (Nat.le_of_ble_eq_true rfl) ⟨Nat.zero_le _, Nat.zero_le _⟩ dX10_entry_2) hw (fun H locs hw hb1 => ?_)
  refine lv_if_eq (tgt := 17) hx hb dX10_entry_5 (by decide) (fun c2 => ?_) (fun c2 => ?_)
  · have h := if_t c2 h
    refine lv_bipush (v := (-2)) hx hb dX10_entry_17 (by decide) ?_
    obtain rfl := Option.some.inj h
    exact r_iret S hr hlocks hw dX10_entry_19
  · have h := if_f c2 h
    refine lv_iload_n hx hb dX10_entry_8 rfl (lv_at hl 3 rfl) ?_
    refine lv_iconst (v := 0) hx hb dX10_entry_9 (by decide) ?_
    refine lv_iconst (v := 2) hx hb dX10_entry_10 (by decide) ?_
    refine r_cz (r_runS (As := [.int p3, .int 0, .int 2]) (rest := []) S hE hw (c_X10_in  l G A σ p3 0 2) (va_cwS 3 hts gX10_entry_X10_in rfl rfl rfl (by decide +kernel) ⟨Nat.le_of_ble_eq_true rfl, Nat.le_of_ble_eq_true rfl⟩) rfl hl.1 rfl (Nat.le_of_ble_eq_true rfl) ⟨Nat.zero_le _, Nat.zero_le _⟩ dX10_entry_11) hw (fun H locs hw hb3 => ?_)
    refine lv_if_ne (tgt := 20) hx hb dX10_entry_14 (by decide) (fun c4 => ?_) (fun c4 => ?_)
    · have h := if_f c4 h
      refine lv_iload_n hx hb dX10_entry_20 rfl (lv_at hl 2 rfl) ?_
      refine lv_iconst (v := 0) hx hb dX10_entry_21 (by decide) ?_
      refine lv_aload_n hx hb dX10_entry_22 rfl (lv_at hl 0 rfl) ?_
      refine r_gr S hE hw 19 89 iw10_X10_entry rfl rfl (by decide) rfl (hts _ mf66_X10_entry) dX10_entry_23 ?_
      refine lv_iload_n hx hb dX10_entry_26 rfl (lv_at hl 1 rfl) ?_
      obtain ⟨v5, gv5, h⟩ := oB_out h
      refine r_al S hE hw rfl rfl gv5 dX10_entry_27 ?_
      refine lv_iconst (v := 1) hx hb dX10_entry_28 (by decide) ?_
      refine lv_isub hx hb dX10_entry_29 ?_
      refine r_cz (r_runS (As := [.int p2, .int 0, .int (v5 - 1)]) (rest := []) S hE hw (c_X10_in  l G A σ p2 0 (v5 - 1)) (va_cwS 3 hts gX10_entry_X10_in rfl rfl rfl (by decide +kernel) ⟨Nat.le_of_ble_eq_true rfl, Nat.le_of_ble_eq_true rfl⟩) rfl hl.1 rfl (Nat.le_of_ble_eq_true rfl) ⟨Nat.zero_le _, Nat.zero_le _⟩ dX10_entry_30) hw (fun H locs hw hb6 => ?_)
      refine lv_if_eq (tgt := 50) hx hb dX10_entry_33 (by decide) (fun c7 => ?_) (fun c7 => ?_)
      · have h := if_t c7 h
        refine lv_iconst (v := (-1)) hx hb dX10_entry_50 (by decide) ?_
        obtain rfl := Option.some.inj h
        exact r_iret S hr hlocks hw dX10_entry_51
      · have h := if_f c7 h
        refine lv_aload_n hx hb dX10_entry_36 rfl (lv_at hl 0 rfl) ?_
        refine r_gr S hE hw 22 92 iw10_X10_entry rfl rfl (by decide) rfl (hts _ mf75_X10_entry) dX10_entry_37 ?_
        refine lv_bipush (v := 61) hx hb dX10_entry_40 (by decide) ?_
        refine lv_iload_n hx hb dX10_entry_42 rfl (lv_at hl 1 rfl) ?_
        refine lv_imul hx hb dX10_entry_43 ?_
        refine lv_iload_n hx hb dX10_entry_44 rfl (lv_at hl 2 rfl) ?_
        refine lv_iadd hx hb dX10_entry_45 ?_
        obtain ⟨v8, gv8, h⟩ := oB_out h
        refine r_zl S hE hw rfl rfl gv8 dX10_entry_46 ?_
        refine lv_if_eq (tgt := 52) hx hb dX10_entry_47 (by decide) (fun c9 => ?_) (fun c9 => ?_)
        · have h := if_t c9 h
          refine lv_iload_n hx hb dX10_entry_52 rfl (lv_at hl 3 rfl) ?_
          refine lv_if_ne (tgt := 73) hx hb dX10_entry_53 (by decide) (fun c10 => ?_) (fun c10 => ?_)
          · have h := if_f c10 h
            refine lv_iload_n hx hb dX10_entry_73 rfl (lv_at hl 3 rfl) ?_
            refine lv_iconst (v := 1) hx hb dX10_entry_74 (by decide) ?_
            refine lv_icmp_ne (tgt := 95) hx hb dX10_entry_75 (by decide) (fun c11 => ?_) (fun c11 => ?_)
            · have h := if_f c11 h
              refine lv_aload_n hx hb dX10_entry_95 rfl (lv_at hl 0 rfl) ?_
              refine r_gr S hE hw 21 91 iw10_X10_entry rfl rfl (by decide) rfl (hts _ mf72_X10_entry) dX10_entry_96 ?_
              refine lv_bipush (v := 61) hx hb dX10_entry_99 (by decide) ?_
              refine lv_iload_n hx hb dX10_entry_101 rfl (lv_at hl 1 rfl) ?_
              refine lv_imul hx hb dX10_entry_102 ?_
              refine lv_iload_n hx hb dX10_entry_103 rfl (lv_at hl 2 rfl) ?_
              refine lv_iadd hx hb dX10_entry_104 ?_
              obtain ⟨v12, gv12, h⟩ := oB_out h
              refine r_al S hE hw rfl rfl gv12 dX10_entry_105 ?_
              obtain rfl := Option.some.inj h
              exact r_iret S hr hlocks hw dX10_entry_106
            · have h := if_t c11 h
              refine lv_aload_n hx hb dX10_entry_78 rfl (lv_at hl 0 rfl) ?_
              refine r_gr S hE hw 20 90 iw10_X10_entry rfl rfl (by decide) rfl (hts _ mf69_X10_entry) dX10_entry_79 ?_
              refine lv_bipush (v := 61) hx hb dX10_entry_82 (by decide) ?_
              refine lv_iload_n hx hb dX10_entry_84 rfl (lv_at hl 1 rfl) ?_
              refine lv_imul hx hb dX10_entry_85 ?_
              refine lv_iload_n hx hb dX10_entry_86 rfl (lv_at hl 2 rfl) ?_
              refine lv_iadd hx hb dX10_entry_87 ?_
              obtain ⟨v13, gv13, h⟩ := oB_out h
              refine r_al S hE hw rfl rfl gv13 dX10_entry_88 ?_
              refine lv_bipush (v := 24) hx hb dX10_entry_89 (by decide) ?_
              refine lv_idiv hx hb dX10_entry_91 (by decide) ?_
              refine lv_goto (tgt := 106) hx hb dX10_entry_92 (by decide) ?_
              obtain rfl := Option.some.inj h
              exact r_iret S hr hlocks hw dX10_entry_106
          · have h := if_t c10 h
            refine lv_aload_n hx hb dX10_entry_56 rfl (lv_at hl 0 rfl) ?_
            refine r_gr S hE hw 20 90 iw10_X10_entry rfl rfl (by decide) rfl (hts _ mf69_X10_entry) dX10_entry_57 ?_
            refine lv_bipush (v := 61) hx hb dX10_entry_60 (by decide) ?_
            refine lv_iload_n hx hb dX10_entry_62 rfl (lv_at hl 1 rfl) ?_
            refine lv_imul hx hb dX10_entry_63 ?_
            refine lv_iload_n hx hb dX10_entry_64 rfl (lv_at hl 2 rfl) ?_
            refine lv_iadd hx hb dX10_entry_65 ?_
            obtain ⟨v14, gv14, h⟩ := oB_out h
            refine r_al S hE hw rfl rfl gv14 dX10_entry_66 ?_
            refine lv_bipush (v := 24) hx hb dX10_entry_67 (by decide) ?_
            refine lv_irem hx hb dX10_entry_69 (by decide) ?_
            refine lv_goto (tgt := 106) hx hb dX10_entry_70 (by decide) ?_
            obtain rfl := Option.some.inj h
            exact r_iret S hr hlocks hw dX10_entry_106
        · have h := if_f c9 h
          refine lv_iconst (v := (-1)) hx hb dX10_entry_50 (by decide) ?_
          obtain rfl := Option.some.inj h
          exact r_iret S hr hlocks hw dX10_entry_51
    · have h := if_t c4 h
      refine lv_bipush (v := (-2)) hx hb dX10_entry_17 (by decide) ?_
      obtain rfl := Option.some.inj h
      exact r_iret S hr hlocks hw dX10_entry_19


theorem mf66_X10_lose : Cond.fieldLink RX10 66 "GasVoyagesModel" "entries" "[I" ∈ wsX10_lose := by decide +kernel
set_option maxRecDepth 20000 in
theorem iw10_X10_lose : ∀ w ∈ u_ws RX10 TX10 43, w ∈ wsX10_lose := by decide +kernel
theorem mf75_X10_lose : Cond.fieldLink RX10 75 "GasVoyagesModel" "lost" "[Z" ∈ wsX10_lose := by decide +kernel
def f_X10_lose_66 (kn27 : St → Int32 → Int32 → Int32 → Int32 → Option (Int32 × St)) (σ : St) (x1 : Int32) (x3 : Int32) (x5 : Int32) (y0 : Int32) (y1 : Int32) : Option (Int32 × St) := Option.bind (aS σ 92 488 ((61 * x1) + x5) (vp_nar .boolean 1)) fun s1 => kn27 s1 x1 x3 (y1 + y0) (x5 + 1)
set_option maxRecDepth 100000 in
set_option maxHeartbeats 4000000 in
theorem w_X10_lose_66 {p : Program} {l : Launch} {e : Env} {s : State} {m : MethodId} {args : Array Value} {below : List Frame} {meth : Method} {c : Code} {G : Gp} {A : Nat → Prop} (S : CallFix p m c cX10_lose 6 s args wsX10_lose RX10) (hr : meth.sig.returnType = (some .int)) (hlocks : meth.locks = false) (hE : Ev G A s) {kn27 : St → Int32 → Int32 → Int32 → Int32 → Option (Int32 × St)} (hkn27 : ∀ (σ : St) (x1 : Int32) (x3 : Int32) (x4 : Int32) (x5 : Int32) (r : Int32) (σ' : St), kn27 σ x1 x3 x4 x5 = some (r, σ') → ∀ (H : Heap) (locs : List Loc) (ls : Array Slot), Ww G A σ s H locs → lv_has ls 6 [(0, .ref (ad G 72)), (1, .int x1), (3, .int x3), (4, .int x4), (5, .int x5)] → W p l e (rmd 2) s m args below meth c H locs 0 0 (Qi below args s G A r σ') (F0 m 27 ls [])) (σ : St) (x1 : Int32) (x3 : Int32) (x5 : Int32) (y0 : Int32) (y1 : Int32) {r : Int32} {σ' : St} (h : f_X10_lose_66  kn27 σ x1 x3 x5 y0 y1 = some (r, σ')) {H : Heap} {locs : List Loc} {ls : Array Slot} (hw : Ww G A σ s H locs) (hl : lv_has ls 6 [(0, .ref (ad G 72)), (1, .int x1), (3, .int x3), (5, .int x5)]) : W p l e (rmd 2) s m args below meth c H locs 0 0 (Qi below args s G A r σ') (F0 m 66 ls [.int y0, .int y1]) := by
  obtain ⟨hx, hb, hml, hown, hts⟩ := id S
  unfold f_X10_lose_66 at h
  refine lv_iadd hx hb dX10_lose_66 ?_
  refine lv_istore (lv' := [(4, .int (y1 + y0)), (0, .ref (ad G 72)), (1, .int x1), (3, .int x3), (5, .int x5)]) hx hb dX10_lose_67 hl (by decide) rfl (fun ls hl => ?_)
  refine lv_aload_n hx hb dX10_lose_69 rfl (lv_at hl 1 rfl) ?_
  refine r_gr S hE hw 22 92 iw10_X10_lose rfl rfl (by decide) rfl (hts _ mf75_X10_lose) dX10_lose_70 ?_
  refine lv_bipush (v := 61) hx hb dX10_lose_73 (by decide) ?_
  refine lv_iload_n hx hb dX10_lose_75 rfl (lv_at hl 2 rfl) ?_
  refine lv_imul hx hb dX10_lose_76 ?_
  refine lv_iload hx hb dX10_lose_77 (lv_at hl 4 rfl) ?_
  refine lv_iadd hx hb dX10_lose_79 ?_
  refine lv_iconst (v := 1) hx hb dX10_lose_80 (by decide) ?_
  obtain ⟨s1, gs1, h⟩ := oB_out h
  refine r_zs S hE hw rfl rfl gs1 dX10_lose_81 (fun H locs hw => ?_)
  refine lv_iinc (v := x5 + 1) (lv' := [(5, .int (x5 + 1)), (4, .int (y1 + y0)), (0, .ref (ad G 72)), (1, .int x1), (3, .int x3)]) hx hb dX10_lose_82 hl (k := 4) rfl rfl (by decide) rfl (fun ls hl => ?_)
  refine lv_goto (tgt := 27) hx hb dX10_lose_85 (by decide) ?_
  exact hkn27 s1 x1 x3 (y1 + y0) (x5 + 1) _ _ h _ _ _ hw (lv_sub hl [2, 3, 4, 1, 0] rfl)

def f_X10_lose_27 : Nat → St → Int32 → Int32 → Int32 → Int32 → Option (Int32 × St)
  | 0, _, _, _, _, _ => none
  | n + 1, σ, x1, x3, x4, x5 => if x3 < x5 then (some (x4, σ)) else (Option.bind (aL σ 89 8 x1) fun v2 => if v2 ≤ x5 then (some (x4, σ)) else (Option.bind (aL σ 92 488 ((61 * x1) + x5)) fun v4 => if v4 = 0 then (f_X10_lose_66 (fun σ x1 x3 x4 x5 => f_X10_lose_27 n σ x1 x3 x4 x5) σ x1 x3 x5 1 x4) else (f_X10_lose_66 (fun σ x1 x3 x4 x5 => f_X10_lose_27 n σ x1 x3 x4 x5) σ x1 x3 x5 0 x4)))
set_option maxRecDepth 100000 in
set_option maxHeartbeats 4000000 in
theorem w_X10_lose_27 {p : Program} {l : Launch} {e : Env} {s : State} {m : MethodId} {args : Array Value} {below : List Frame} {meth : Method} {c : Code} {G : Gp} {A : Nat → Prop} (S : CallFix p m c cX10_lose 6 s args wsX10_lose RX10) (hr : meth.sig.returnType = (some .int)) (hlocks : meth.locks = false) (hE : Ev G A s) (n : Nat) (σ : St) (x1 : Int32) (x3 : Int32) (x4 : Int32) (x5 : Int32) {r : Int32} {σ' : St} (h : f_X10_lose_27   n σ x1 x3 x4 x5 = some (r, σ')) {H : Heap} {locs : List Loc} {ls : Array Slot} (hw : Ww G A σ s H locs) (hl : lv_has ls 6 [(0, .ref (ad G 72)), (1, .int x1), (3, .int x3), (4, .int x4), (5, .int x5)]) : W p l e (rmd 2) s m args below meth c H locs 0 0 (Qi below args s G A r σ') (F0 m 27 ls []) := by
  obtain ⟨hx, hb, hml, hown, hts⟩ := id S
  induction n generalizing σ x1 x3 x4 x5 r σ' H locs ls with
  | zero => cases h
  | succ n ih =>
    unfold f_X10_lose_27 at h
    refine lv_iload hx hb dX10_lose_27 (lv_at hl 4 rfl) ?_
    refine lv_iload_n hx hb dX10_lose_29 rfl (lv_at hl 2 rfl) ?_
    refine lv_icmp_gt (tgt := 88) hx hb dX10_lose_30 (by decide) (fun c1 => ?_) (fun c1 => ?_)
    · have h := if_t c1 h
      refine lv_iload hx hb dX10_lose_88 (lv_at hl 3 rfl) ?_
      obtain ⟨rfl, rfl⟩ := rt2 h
      exact r_iret S hr hlocks hw dX10_lose_90
    · have h := if_f c1 h
      refine lv_iload hx hb dX10_lose_33 (lv_at hl 4 rfl) ?_
      refine lv_aload_n hx hb dX10_lose_35 rfl (lv_at hl 0 rfl) ?_
      refine r_gr S hE hw 19 89 iw10_X10_lose rfl rfl (by decide) rfl (hts _ mf66_X10_lose) dX10_lose_36 ?_
      refine lv_iload_n hx hb dX10_lose_39 rfl (lv_at hl 1 rfl) ?_
      obtain ⟨v2, gv2, h⟩ := oB_out h
      refine r_al S hE hw rfl rfl gv2 dX10_lose_40 ?_
      refine lv_icmp_ge (tgt := 88) hx hb dX10_lose_41 (by decide) (fun c3 => ?_) (fun c3 => ?_)
      · have h := if_t c3 h
        refine lv_iload hx hb dX10_lose_88 (lv_at hl 3 rfl) ?_
        obtain ⟨rfl, rfl⟩ := rt2 h
        exact r_iret S hr hlocks hw dX10_lose_90
      · have h := if_f c3 h
        refine lv_iload hx hb dX10_lose_44 (lv_at hl 3 rfl) ?_
        refine lv_aload_n hx hb dX10_lose_46 rfl (lv_at hl 0 rfl) ?_
        refine r_gr S hE hw 22 92 iw10_X10_lose rfl rfl (by decide) rfl (hts _ mf75_X10_lose) dX10_lose_47 ?_
        refine lv_bipush (v := 61) hx hb dX10_lose_50 (by decide) ?_
        refine lv_iload_n hx hb dX10_lose_52 rfl (lv_at hl 1 rfl) ?_
        refine lv_imul hx hb dX10_lose_53 ?_
        refine lv_iload hx hb dX10_lose_54 (lv_at hl 4 rfl) ?_
        refine lv_iadd hx hb dX10_lose_56 ?_
        obtain ⟨v4, gv4, h⟩ := oB_out h
        refine r_zl S hE hw rfl rfl gv4 dX10_lose_57 ?_
        refine lv_if_eq (tgt := 65) hx hb dX10_lose_58 (by decide) (fun c5 => ?_) (fun c5 => ?_)
        · have h := if_t c5 h
          refine lv_iconst (v := 1) hx hb dX10_lose_65 (by decide) ?_
          exact w_X10_lose_66   S hr hlocks hE (fun σ x1 x3 x4 x5  _ _ h _ _ _ hw hl => ih σ x1 x3 x4 x5  h hw hl)  σ x1 x3 x5 1 x4 h hw (lv_sub hl [0, 1, 2, 4] rfl)
        · have h := if_f c5 h
          refine lv_iconst (v := 0) hx hb dX10_lose_61 (by decide) ?_
          refine lv_goto (tgt := 66) hx hb dX10_lose_62 (by decide) ?_
          exact w_X10_lose_66   S hr hlocks hE (fun σ x1 x3 x4 x5  _ _ h _ _ _ hw hl => ih σ x1 x3 x4 x5  h hw hl)  σ x1 x3 x5 0 x4 h hw (lv_sub hl [0, 1, 2, 4] rfl)

def f_X10_lose (σ : St) (p1 : Int32) (p2 : Int32) (p3 : Int32) : Option (Int32 × St) := if (f_X10_isFlight σ p1) = 0 then (some ((-2), σ)) else (if p2 < 1 then (some ((-2), σ)) else (if p2 ≤ p3 then (f_X10_lose_27 10000 σ p1 p3 0 p2) else (some ((-2), σ))))
set_option maxRecDepth 100000 in
set_option maxHeartbeats 4000000 in
theorem c_X10_lose (l : Launch) (G : Gp) (A : Nat → Prop) (σ : St) (p1 : Int32) (p2 : Int32) (p3 : Int32) {r : Int32} {σ' : St} (h : f_X10_lose σ p1 p2 p3 = some (r, σ')) : Ki l yX10_lose wsX10_lose 2 G A [.ref (ad G 72), .int p1, .int p2, .int p3] σ r σ' := by
  unfold f_X10_lose at h
  refine r_start (ws := wsX10_lose) (d := 2) (by decide) rfl [.ref (ad G 72), .int p1, .int p2, .int p3] (Nat.le_of_ble_eq_true rfl) ?_
  intro p e s m below meth c S hr hlocks hE hw ls hl
  have hl : lv_has ls 6 [(0, .ref (ad G 72)), (1, .int p1), (2, .int p2), (3, .int p3)] := hl
  obtain ⟨hx, hb, hml, hown, hts⟩ := id S
  refine lv_aload_n hx hb dX10_lose_0 rfl (lv_at hl 0 rfl) ?_
  refine lv_iload_n hx hb dX10_lose_1 rfl (lv_at hl 1 rfl) ?_
  refine r_cz (r_runV (k := 72) (ci := 10) (As := [.int p1]) (rest := []) S hE hw (c_X10_isFlight  l G A σ p1) (cwV 1 hts gX10_lose_X10_isFlight rfl rfl rfl (by decide +kernel) ⟨Nat.le_of_ble_eq_true rfl, Nat.le_of_ble_eq_true rfl⟩) rfl rfl (by decide) rfl hl.1 rfl (Nat.le_of_ble_eq_true rfl) ⟨Nat.zero_le _, Nat.zero_le _⟩ dX10_lose_2) hw (fun H locs hw hb1 => ?_)
  refine lv_if_eq (tgt := 18) hx hb dX10_lose_5 (by decide) (fun c2 => ?_) (fun c2 => ?_)
  · have h := if_t c2 h
    refine lv_bipush (v := (-2)) hx hb dX10_lose_18 (by decide) ?_
    obtain ⟨rfl, rfl⟩ := rt2 h
    exact r_iret S hr hlocks hw dX10_lose_20
  · have h := if_f c2 h
    refine lv_iload_n hx hb dX10_lose_8 rfl (lv_at hl 2 rfl) ?_
    refine lv_iconst (v := 1) hx hb dX10_lose_9 (by decide) ?_
    refine lv_icmp_lt (tgt := 18) hx hb dX10_lose_10 (by decide) (fun c3 => ?_) (fun c3 => ?_)
    · have h := if_t c3 h
      refine lv_bipush (v := (-2)) hx hb dX10_lose_18 (by decide) ?_
      obtain ⟨rfl, rfl⟩ := rt2 h
      exact r_iret S hr hlocks hw dX10_lose_20
    · have h := if_f c3 h
      refine lv_iload_n hx hb dX10_lose_13 rfl (lv_at hl 3 rfl) ?_
      refine lv_iload_n hx hb dX10_lose_14 rfl (lv_at hl 2 rfl) ?_
      refine lv_icmp_ge (tgt := 21) hx hb dX10_lose_15 (by decide) (fun c4 => ?_) (fun c4 => ?_)
      · have h := if_t c4 h
        refine lv_iconst (v := 0) hx hb dX10_lose_21 (by decide) ?_
        refine lv_istore (lv' := [(4, .int 0), (0, .ref (ad G 72)), (1, .int p1), (2, .int p2), (3, .int p3)]) hx hb dX10_lose_22 hl (by decide) rfl (fun ls hl => ?_)
        refine lv_iload_n hx hb dX10_lose_24 rfl (lv_at hl 3 rfl) ?_
        refine lv_istore (lv' := [(5, .int p2), (4, .int 0), (0, .ref (ad G 72)), (1, .int p1), (2, .int p2), (3, .int p3)]) hx hb dX10_lose_25 hl (by decide) rfl (fun ls hl => ?_)
        exact w_X10_lose_27   S hr hlocks hE  10000 σ p1 p3 0 p2 h hw (lv_sub hl [2, 3, 5, 1, 0] rfl)
      · have h := if_f c4 h
        refine lv_bipush (v := (-2)) hx hb dX10_lose_18 (by decide) ?_
        obtain ⟨rfl, rfl⟩ := rt2 h
        exact r_iret S hr hlocks hw dX10_lose_20


theorem mc183_X10_sum : Cond.constant RX10 183 (1000000) ∈ wsX10_sum := by decide +kernel
def f_X10_sum (p0 : Int32) (p1 : Int32) : Int32 := if (p0 + p1) ≤ 1000000 then (p0 + p1) else (1000000)
set_option maxRecDepth 100000 in
set_option maxHeartbeats 4000000 in
theorem c_X10_sum (l : Launch) (G : Gp) (A : Nat → Prop) (σ : St) (p0 : Int32) (p1 : Int32) : Ki l yX10_sum wsX10_sum 0 G A [.int p0, .int p1] σ (f_X10_sum p0 p1) σ := by
  obtain ⟨r, h⟩ : ∃ r, f_X10_sum p0 p1 = r := ⟨_, rfl⟩
  rw [h]
  unfold f_X10_sum at h
  refine r_start (ws := wsX10_sum) (d := 0) (by decide) rfl [.int p0, .int p1] (Nat.le_of_ble_eq_true rfl) ?_
  intro p e s m below meth c S hr hlocks hE hw ls hl
  have hl : lv_has ls 2 [(0, .int p0), (1, .int p1)] := hl
  obtain ⟨hx, hb, hml, hown, hts⟩ := id S
  refine lv_iload_n hx hb dX10_sum_0 rfl (lv_at hl 0 rfl) ?_
  refine lv_iload_n hx hb dX10_sum_1 rfl (lv_at hl 1 rfl) ?_
  refine lv_iadd hx hb dX10_sum_2 ?_
  refine lv_ldc (v := 1000000) hx hb hown (hts _ mc183_X10_sum) dX10_sum_3 ?_
  refine lv_icmp_le (tgt := 13) hx hb dX10_sum_5 (by decide) (fun c1 => ?_) (fun c1 => ?_)
  · have h := if_t c1 h
    refine lv_iload_n hx hb dX10_sum_13 rfl (lv_at hl 0 rfl) ?_
    refine lv_iload_n hx hb dX10_sum_14 rfl (lv_at hl 1 rfl) ?_
    refine lv_iadd hx hb dX10_sum_15 ?_
    subst h
    exact r_iret S hr hlocks hw dX10_sum_16
  · have h := if_f c1 h
    refine lv_ldc (v := 1000000) hx hb hown (hts _ mc183_X10_sum) dX10_sum_8 ?_
    refine lv_goto (tgt := 16) hx hb dX10_sum_10 (by decide) ?_
    subst h
    exact r_iret S hr hlocks hw dX10_sum_16

