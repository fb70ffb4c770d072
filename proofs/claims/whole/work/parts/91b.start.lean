theorem in_lx : Cond.laysStatic "GasVoyages" "SIDE_X" "[I" ∈ lw_tbl := by decide +kernel
theorem in_ly : Cond.laysStatic "GasVoyages" "SIDE_Y" "[I" ∈ lw_tbl := by decide +kernel
theorem in_in : Cond.initialized "GasVoyages" ∈ lw_tbl := by decide +kernel
set_option maxRecDepth 100000 in
set_option maxHeartbeats 4000000 in
theorem start_Z {s : State} {b : Nat} (hts : ∀ w ∈ lw_tbl, w.before #[Value.ref b] s = true) (hgv : (Jvm.Cond.and given_1 narrow_1).before #[Value.ref b] s = true) : ∃ tx ty : Nat, (va_Z "GasVoyages" "SIDE_X" "[I" (.ref tx) (aw s) s s.heap ∧ va_T .int tx 4 sxV (aw s) s s.heap) ∧ va_Z "GasVoyages" "SIDE_Y" "[I" (.ref ty) (aw s) s s.heap ∧ va_T .int ty 4 syV (aw s) s s.heap := by
  have hs := flat_of_before _ hgv
  have hA : ∀ a : Nat, a < s.heap.size → ¬ aw s a := fun a h => Nat.not_le.mpr h
  obtain ⟨tx, e1, t1⟩ := va_Tof (A := aw s) (tm := .static "GasVoyages" "SIDE_X" "[I") (ty := .int) (N := 4) (f := sxV) (by decide) (hs (.arrayOf (.static "GasVoyages" "SIDE_X" "[I") .int) (by decide +kernel)) (va_eqt (hs (.eq (.length (.static "GasVoyages" "SIDE_X" "[I")) (.int 4)) (by decide +kernel))) (fun j hj => by
    match j, hj with
    | 0, _ => exact va_eqt (hs (.eq (.elem (.static "GasVoyages" "SIDE_X" "[I") (.int 0)) (.int 1)) (by decide +kernel))
    | 1, _ => exact va_eqt (hs (.eq (.elem (.static "GasVoyages" "SIDE_X" "[I") (.int 1)) (.int (-1))) (by decide +kernel))
    | 2, _ => exact va_eqt (hs (.eq (.elem (.static "GasVoyages" "SIDE_X" "[I") (.int 2)) (.int 0)) (by decide +kernel))
    | 3, _ => exact va_eqt (hs (.eq (.elem (.static "GasVoyages" "SIDE_X" "[I") (.int 3)) (.int 0)) (by decide +kernel))
    | j + 4, hj => omega) hA
  obtain ⟨ty, e2, t2⟩ := va_Tof (A := aw s) (tm := .static "GasVoyages" "SIDE_Y" "[I") (ty := .int) (N := 4) (f := syV) (by decide) (hs (.arrayOf (.static "GasVoyages" "SIDE_Y" "[I") .int) (by decide +kernel)) (va_eqt (hs (.eq (.length (.static "GasVoyages" "SIDE_Y" "[I")) (.int 4)) (by decide +kernel))) (fun j hj => by
    match j, hj with
    | 0, _ => exact va_eqt (hs (.eq (.elem (.static "GasVoyages" "SIDE_Y" "[I") (.int 0)) (.int 0)) (by decide +kernel))
    | 1, _ => exact va_eqt (hs (.eq (.elem (.static "GasVoyages" "SIDE_Y" "[I") (.int 1)) (.int 0)) (by decide +kernel))
    | 2, _ => exact va_eqt (hs (.eq (.elem (.static "GasVoyages" "SIDE_Y" "[I") (.int 2)) (.int 1)) (by decide +kernel))
    | 3, _ => exact va_eqt (hs (.eq (.elem (.static "GasVoyages" "SIDE_Y" "[I") (.int 3)) (.int (-1))) (by decide +kernel))
    | j + 4, hj => omega) hA
  exact ⟨tx, ty, ⟨va_Zref (hts _ in_lx) (hts _ in_in) e1 hA, t1⟩, va_Zref (hts _ in_ly) (hts _ in_in) e2 hA, t2⟩
