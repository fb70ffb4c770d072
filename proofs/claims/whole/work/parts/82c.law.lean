set_option maxRecDepth 100000 in
set_option maxHeartbeats 4000000 in
theorem law_loop {p : Program} {l : Launch} {e : Env} {s : State} {m : MethodId} {below : List Frame} {meth : Method} {c : Code} {b L : Nat} {xs : Nat → Int32} {G : Gp} {Inv : St → Prop} (hL : L ≤ 3584) (C0 : lw_At p s m meth c b L xs) (hE : Ev G (aw s) s) (M0 : MS_land Inv) (M1 : MS_cell Inv) (M2 : MS_level Inv) (M3 : MS_warmth Inv) (M4 : MS_wind Inv) (M5 : MS_fly Inv) (M6 : MS_go Inv) (M7 : MS_about Inv) (M8 : MS_distance Inv) (M9 : MS_plan Inv) (M10 : MS_away Inv) (M11 : MS_order Inv) (M12 : MS_entry Inv) (M13 : MS_lose Inv) (M14 : MS_judge Inv) (M15 : MS_ways Inv) (M16 : MS_chaser Inv) (M17 : MS_chase Inv) (M18 : MS_first Inv) (M19 : MS_record Inv) (M20 : MS_count Inv) (M21 : MS_digest Inv) {cells slots : Nat} (hf : cells ≤ room_1.cells ∧ slots ≤ room_1.slots) :
    ∀ (n i : Nat), i ≤ L + 7 → L + 8 ≤ i + n → ∀ (σ : St) (H : Heap) (locs : List Loc) (ls : Array Slot), Inv σ → Ww G (aw s) σ s H locs → lv_has ls 4 [(0, .ref b), (1, .ref (ad G 0)), (2, .ref (ad G 72)), (3, .int (nI i))] → W p l e room_1 s m #[Value.ref b] below meth c H locs cells slots (lw_Z below #[Value.ref b] s) (F0 m 18 ls []) := by
  obtain ⟨hx, hb, hr, hml, hown, hts0, hX, hbl, hlocks, hgv⟩ := id C0
  have hbA : ¬ (aw s) b := Nat.not_le.mpr hbl
  intro n
  induction n with
  | zero =>
    intro i h1 h2
    exact absurd h2 (by omega)
  | succ n ih =>
    intro i hi1 hi2 σ H locs ls hI hw hl
    refine lv_iload_n hx hb dL_law_18 rfl (lv_at hl 3 rfl) ?_
    refine lv_aload_n hx hb dL_law_19 rfl (lv_at hl 0 rfl) ?_
    refine va_slen hx hb hX hbl hbA hw.2.2.1 dL_law_20 ?_
    refine lv_bipush (v := 7) hx hb dL_law_21 (by decide) ?_
    refine lv_isub hx hb dL_law_23 ?_
    refine lv_icmp_gt (tgt := 1025) hx hb dL_law_24 (by decide) (fun c1 => ?_) (fun c1 => ?_)
    · refine lv_iconst (v := 1) hx hb dL_law_1025 (by decide) ?_
      refine va_forget (fun q hq => hw.2.2.1.2.2 q hq) ?_
      refine W.widen (k := 600000) (n := 7302250) hf.1 hf.2 ?_
      exact lw_ret hx hb hr hlocks dL_law_1026
    · have hi : i + 7 ≤ L := scr_go hL (by omega) c1
      have hin : vp_in (nI i) L := vp_in_nI (by omega) (by omega)
      refine lv_aload_n hx hb dL_law_27 rfl (lv_at hl 0 rfl) ?_
      refine lv_iload_n hx hb dL_law_28 rfl (lv_at hl 3 rfl) ?_
      refine va_sld hx hb hX hbl hbA hw.2.2.1 hin dL_law_29 ?_
      refine lv_bipush (v := 31) hx hb dL_law_30 (by decide) ?_
      refine lv_iand hx hb dL_law_32 ?_
      refine lv_topi (fun z ez => ?_)
      have hk : ∀ (σ : St) (H : Heap) (locs : List Loc) (ls : Array Slot), Inv σ → Ww G (aw s) σ s H locs → lv_has ls 4 [(0, .ref b), (1, .ref (ad G 0)), (2, .ref (ad G 72)), (3, .int (nI i))] → W p l e room_1 s m #[Value.ref b] below meth c H locs cells slots (lw_Z below #[Value.ref b] s) (F0 m 1019 ls []) := by
        intro σ H locs ls hI hw hl
        refine lv_iinc (v := nI (i + 7)) (lv' := [(3, .int (nI (i + 7))), (0, .ref b), (1, .ref (ad G 0)), (2, .ref (ad G 72))]) hx hb dL_law_1019 hl (k := 3) rfl (nI_add i 7) (by decide) rfl (fun ls hl => ?_)
        refine lv_goto (tgt := 18) hx hb dL_law_1022 (by decide) ?_
        exact ih (i + 7) (by omega) (by omega) σ H locs ls hI hw (lv_sub hl [1, 2, 3, 0] rfl)
      by_cases q0 : z = 0
      · refine lv_tableIn (off := 103) (tgt := 136) hx hb dL_law_33 (by rw [q0]; decide) (by rw [q0]; decide) (by rw [q0]; rfl) (by decide) ?_
        exact lwc_land C0 hE M0 hi hL hf hk hI hw hl
      by_cases q1 : z = 1
      · refine lv_tableIn (off := 136) (tgt := 169) hx hb dL_law_33 (by rw [q1]; decide) (by rw [q1]; decide) (by rw [q1]; rfl) (by decide) ?_
        exact lwc_cell C0 hE M1 hi hL hf hk hI hw hl
      by_cases q2 : z = 2
      · refine lv_tableIn (off := 179) (tgt := 212) hx hb dL_law_33 (by rw [q2]; decide) (by rw [q2]; decide) (by rw [q2]; rfl) (by decide) ?_
        exact lwc_level C0 hE M2 hi hL hf hk hI hw hl
      by_cases q3 : z = 3
      · refine lv_tableIn (off := 222) (tgt := 255) hx hb dL_law_33 (by rw [q3]; decide) (by rw [q3]; decide) (by rw [q3]; rfl) (by decide) ?_
        exact lwc_warmth C0 hE M3 hi hL hf hk hI hw hl
      by_cases q4 : z = 4
      · refine lv_tableIn (off := 255) (tgt := 288) hx hb dL_law_33 (by rw [q4]; decide) (by rw [q4]; decide) (by rw [q4]; rfl) (by decide) ?_
        exact lwc_wind C0 hE M4 hi hL hf hk hI hw hl
      by_cases q5 : z = 5
      · refine lv_tableIn (off := 346) (tgt := 379) hx hb dL_law_33 (by rw [q5]; decide) (by rw [q5]; decide) (by rw [q5]; rfl) (by decide) ?_
        exact lwc_fly C0 hE M5 hi hL hf hk hI hw hl
      by_cases q6 : z = 6
      · refine lv_tableIn (off := 421) (tgt := 454) hx hb dL_law_33 (by rw [q6]; decide) (by rw [q6]; decide) (by rw [q6]; rfl) (by decide) ?_
        exact lwc_go C0 hE M6 hi hL hf hk hI hw hl
      by_cases q7 : z = 7
      · refine lv_tableIn (off := 474) (tgt := 507) hx hb dL_law_33 (by rw [q7]; decide) (by rw [q7]; decide) (by rw [q7]; rfl) (by decide) ?_
        exact lwc_about C0 hE M7 hi hL hf hk hI hw hl
      by_cases q8 : z = 8
      · refine lv_tableIn (off := 507) (tgt := 540) hx hb dL_law_33 (by rw [q8]; decide) (by rw [q8]; decide) (by rw [q8]; rfl) (by decide) ?_
        exact lwc_distance C0 hE M8 hi hL hf hk hI hw hl
      by_cases q9 : z = 9
      · refine lv_tableIn (off := 530) (tgt := 563) hx hb dL_law_33 (by rw [q9]; decide) (by rw [q9]; decide) (by rw [q9]; rfl) (by decide) ?_
        exact lwc_plan C0 hE M9 hi hL hf hk hI hw hl
      by_cases q10 : z = 10
      · refine lv_tableIn (off := 593) (tgt := 626) hx hb dL_law_33 (by rw [q10]; decide) (by rw [q10]; decide) (by rw [q10]; rfl) (by decide) ?_
        exact lwc_away C0 hE M10 hi hL hf hk hI hw hl
      by_cases q11 : z = 11
      · refine lv_tableIn (off := 636) (tgt := 669) hx hb dL_law_33 (by rw [q11]; decide) (by rw [q11]; decide) (by rw [q11]; rfl) (by decide) ?_
        exact lwc_order C0 hE M11 hi hL hf hk hI hw hl
      by_cases q12 : z = 12
      · refine lv_tableIn (off := 659) (tgt := 692) hx hb dL_law_33 (by rw [q12]; decide) (by rw [q12]; decide) (by rw [q12]; rfl) (by decide) ?_
        exact lwc_entry C0 hE M12 hi hL hf hk hI hw hl
      by_cases q13 : z = 13
      · refine lv_tableIn (off := 702) (tgt := 735) hx hb dL_law_33 (by rw [q13]; decide) (by rw [q13]; decide) (by rw [q13]; rfl) (by decide) ?_
        exact lwc_lose C0 hE M13 hi hL hf hk hI hw hl
      by_cases q14 : z = 14
      · refine lv_tableIn (off := 745) (tgt := 778) hx hb dL_law_33 (by rw [q14]; decide) (by rw [q14]; decide) (by rw [q14]; rfl) (by decide) ?_
        exact lwc_judge C0 hE M14 hi hL hf hk hI hw hl
      by_cases q15 : z = 15
      · refine lv_tableIn (off := 768) (tgt := 801) hx hb dL_law_33 (by rw [q15]; decide) (by rw [q15]; decide) (by rw [q15]; rfl) (by decide) ?_
        exact lwc_ways C0 hE M15 hi hL hf hk hI hw hl
      by_cases q16 : z = 16
      · refine lv_tableIn (off := 817) (tgt := 850) hx hb dL_law_33 (by rw [q16]; decide) (by rw [q16]; decide) (by rw [q16]; rfl) (by decide) ?_
        exact lwc_chaser C0 hE M16 hi hL hf hk hI hw hl
      by_cases q17 : z = 17
      · refine lv_tableIn (off := 860) (tgt := 893) hx hb dL_law_33 (by rw [q17]; decide) (by rw [q17]; decide) (by rw [q17]; rfl) (by decide) ?_
        exact lwc_chase C0 hE M17 hi hL hf hk hI hw hl
      by_cases q18 : z = 18
      · refine lv_tableIn (off := 903) (tgt := 936) hx hb dL_law_33 (by rw [q18]; decide) (by rw [q18]; decide) (by rw [q18]; rfl) (by decide) ?_
        exact lwc_first C0 hE M18 hi hL hf hk hI hw hl
      by_cases q19 : z = 19
      · refine lv_tableIn (off := 926) (tgt := 959) hx hb dL_law_33 (by rw [q19]; decide) (by rw [q19]; decide) (by rw [q19]; rfl) (by decide) ?_
        exact lwc_record C0 hE M19 hi hL hf hk hI hw hl
      by_cases q20 : z = 20
      · refine lv_tableIn (off := 949) (tgt := 982) hx hb dL_law_33 (by rw [q20]; decide) (by rw [q20]; decide) (by rw [q20]; rfl) (by decide) ?_
        exact lwc_count C0 hE M20 hi hL hf hk hI hw hl
      by_cases q21 : z = 21
      · refine lv_tableIn (off := 972) (tgt := 1005) hx hb dL_law_33 (by rw [q21]; decide) (by rw [q21]; decide) (by rw [q21]; rfl) (by decide) ?_
        exact lwc_digest C0 hE M21 hi hL hf hk hI hw hl
      refine lv_tableOut (tgt := 1019) hx hb dL_law_33 (sw22_out q0 q1 q2 q3 q4 q5 q6 q7 q8 q9 q10 q11 q12 q13 q14 q15 q16 q17 q18 q19 q20 q21) (by decide) ?_
      exact hk σ H locs ls hI hw hl
