/-! what holds at the law's entry: classes, array classes, links -/
theorem in_i0 : Cond.instantiable RX0 5 ∈ lw_tbl := by decide +kernel
theorem in_i1 : Cond.instantiable RX1 8 ∈ lw_tbl := by decide +kernel
theorem in_i2 : Cond.instantiable RX2 6 ∈ lw_tbl := by decide +kernel
theorem in_i3 : Cond.instantiable RX3 7 ∈ lw_tbl := by decide +kernel
theorem in_i4 : Cond.instantiable RX4 4 ∈ lw_tbl := by decide +kernel
theorem in_i5 : Cond.instantiable RX5 3 ∈ lw_tbl := by decide +kernel
theorem in_i6 : Cond.instantiable RX6 11 ∈ lw_tbl := by decide +kernel
theorem in_i7 : Cond.instantiable RX7 6 ∈ lw_tbl := by decide +kernel
theorem in_i8 : Cond.instantiable RX8 2 ∈ lw_tbl := by decide +kernel
theorem in_i9 : Cond.instantiable RX9 8 ∈ lw_tbl := by decide +kernel
theorem in_i10 : Cond.instantiable RX10 43 ∈ lw_tbl := by decide +kernel
theorem in_ai : Cond.arrayClass .int ∈ lw_tbl := by decide +kernel
theorem in_az : Cond.arrayClass .boolean ∈ lw_tbl := by decide +kernel
theorem in_of : Cond.arrayOver (.object RX3) ∈ lw_tbl := by decide +kernel
theorem in_ob : Cond.arrayOver (.object RX1) ∈ lw_tbl := by decide +kernel
theorem in_ns : ∀ q ∈ nstM, Cond.methodLinkNest q.1 q.2.1 q.2.2 "GasVoyages" ∈ lw_tbl := by decide +kernel
theorem in_fx : Cond.fieldLinkNest RX2 47 "GasVoyages" "SIDE_X" "[I" "GasVoyages" ∈ lw_tbl := by decide +kernel
theorem in_fy : Cond.fieldLinkNest RX2 50 "GasVoyages" "SIDE_Y" "[I" "GasVoyages" ∈ lw_tbl := by decide +kernel
set_option maxRecDepth 100000 in
set_option maxHeartbeats 4000000 in
theorem start_K {s : State} {b : Nat} (hts : ∀ w ∈ lw_tbl, w.before #[Value.ref b] s = true) : ∃ (D : va_G) (cy : Nat → ClassId), Cn D cy s := by
  obtain ⟨c0, i0, k0⟩ := u_known (C := RX0) (T := TX0) (N := 5) (n := 5) hts inX0 (hts _ in_i0)
  obtain ⟨c1, i1, k1⟩ := u_known (C := RX1) (T := TX1) (N := 8) (n := 8) hts inX1 (hts _ in_i1)
  obtain ⟨c2, i2, k2⟩ := u_known (C := RX2) (T := TX2) (N := 6) (n := 6) hts inX2 (hts _ in_i2)
  obtain ⟨c3, i3, k3⟩ := u_known (C := RX3) (T := TX3) (N := 7) (n := 7) hts inX3 (hts _ in_i3)
  obtain ⟨c4, i4, k4⟩ := u_known (C := RX4) (T := TX4) (N := 4) (n := 4) hts inX4 (hts _ in_i4)
  obtain ⟨c5, i5, k5⟩ := u_known (C := RX5) (T := TX5) (N := 3) (n := 3) hts inX5 (hts _ in_i5)
  obtain ⟨c6, i6, k6⟩ := u_known (C := RX6) (T := TX6) (N := 11) (n := 11) hts inX6 (hts _ in_i6)
  obtain ⟨c7, i7, k7⟩ := u_known (C := RX7) (T := TX7) (N := 6) (n := 6) hts inX7 (hts _ in_i7)
  obtain ⟨c8, i8, k8⟩ := u_known (C := RX8) (T := TX8) (N := 2) (n := 2) hts inX8 (hts _ in_i8)
  obtain ⟨c9, i9, k9⟩ := u_known (C := RX9) (T := TX9) (N := 8) (n := 8) hts inX9 (hts _ in_i9)
  obtain ⟨c10, i10, k10⟩ := u_known (C := RX10) (T := TX10) (N := 43) (n := 43) hts inX10 (hts _ in_i10)
  obtain ⟨a0, ka0, p0, f0, g0, h0⟩ := Cond.arrayClass_spec (hts _ in_ai)
  obtain ⟨a1, ka1, p1, f1, g1, h1⟩ := Cond.arrayClass_spec (hts _ in_az)
  obtain ⟨p2, a2, ka2, f2, -, g2, h2, n2⟩ := Cond.arrayOver_spec (hts _ in_of)
  obtain ⟨p3, a3, ka3, f3, -, g3, h3, n3⟩ := Cond.arrayOver_spec (hts _ in_ob)
  refine ⟨(fun k => ([c0, c1, c2, c3, c4, c5, c6, c7, c8, c9, c10] : List ClassId).getD k c0, fun k => ([i0, i1, i2, i3, i4, i5, i6, i7, i8, i9, i10] : List (Nat → Nat)).getD k i0), fun k => ([a0, a1, a2, a3] : List ClassId).getD k a0, ⟨?_, ?_⟩, ⟨fun q hq => va_Nw.of rfl (hts _ (in_ns q hq)), va_Nw.of rfl (hts _ in_fx), va_Nw.of rfl (hts _ in_fy)⟩, va_AO.of (hts _ in_of), va_AO.of (hts _ in_ob)⟩
  · intro k q hq
    match k, hq with
    | 0, hq => cases hq; exact k0
    | 1, hq => cases hq; exact k1
    | 2, hq => cases hq; exact k2
    | 3, hq => cases hq; exact k3
    | 4, hq => cases hq; exact k4
    | 5, hq => cases hq; exact k5
    | 6, hq => cases hq; exact k6
    | 7, hq => cases hq; exact k7
    | 8, hq => cases hq; exact k8
    | 9, hq => cases hq; exact k9
    | 10, hq => cases hq; exact k10
    | k + 11, hq => simp [vwCl] at hq
  · intro k q hq
    match k, hq with
    | 0, hq => cases hq; exact ⟨fun N z => ⟨(fun k h => by cases h), ka0, g0, p0, h0⟩, f0⟩
    | 1, hq => cases hq; exact ⟨fun N z => ⟨(fun k h => by cases h), ka1, g1, p1, h1⟩, f1⟩
    | 2, hq => cases hq; exact ⟨fun N z => ⟨(fun k h => by cases h), ka2, g2, p2, h2⟩, ka2, p2, g2, h2, f2, n2⟩
    | 3, hq => cases hq; exact ⟨fun N z => ⟨(fun k h => by cases h), ka3, g3, p3, h3⟩, ka3, p3, g3, h3, f3, n3⟩
    | k + 4, hq => simp [tyc] at hq
