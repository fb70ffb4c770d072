/-! the store behind the two constructors -/
def dn0 : Nat → Int32 := upd (upd (upd (upd (upd (upd (upd (upd (fun _ => 0) 0 14) 1 13) 2 12) 3 11) 4 10) 5 9) 6 8) 7 7
def fn0 : Nat → Int32 := upd (upd (upd (upd (upd (upd (upd (upd (fun _ => 0) 0 500) 1 500) 2 500) 3 500) 4 500) 5 500) 6 500) 7 500
def wh0 : Nat → Int32 := fun j => if j < 2 then 12 else 0
def s00 (k : Nat) : Nat → Int32 := match k with
  | 1 => wh0
  | 4 => dn0
  | 5 => fn0
  | 72 => wh0
  | 74 => dn0
  | 75 => fn0
  | _ => fun _ => 0
def s0 : St := (s00, (20, 24))
theorem dn0_ok : ∀ i, i < 8 → dn0 i = nI (14 - i) := by decide
theorem fn0_ok : ∀ i, i < 8 → fn0 i = nI 500 := by decide
theorem Fr0 : FrOk (fun _ => 0) (fun _ => 0) (fun _ => 0) (fun _ => 0) := ⟨0, by omega, rfl, fun i hi => absurd hi (by omega), fun q _ => Or.inr ⟨rfl, rfl⟩⟩
theorem ib_20 : ib 0 (-20) 20 := ⟨by decide, by decide⟩
theorem ib_2 : ib 0 (-2) 2 := ⟨by decide, by decide⟩
theorem Inv_0 : Inv s0 := by
  refine ⟨⟨12, 12, by omega, by omega, by omega, by omega, rfl, rfl, rfl, rfl, fun i _ => ⟨rfl, 0, by omega, rfl⟩⟩, ⟨fun i hi => ⟨rfl, rfl, ⟨14 - i, by omega, dn0_ok i hi⟩, 500, by omega, fn0_ok i hi⟩, fun i _ => ⟨rfl, ib_20⟩⟩, ⟨fun i _ => ⟨rfl, rfl, rfl, rfl⟩, fun i _ => ⟨ib_2, ib_2⟩⟩, ⟨0, by omega, rfl, rfl, fun f hf => absurd hf (by omega)⟩, ⟨0, by omega, rfl, rfl, fun c hc => absurd hc (by omega)⟩, ⟨0, by omega, rfl, rfl, fun i hi => absurd hi (by omega)⟩, ⟨Or.inl rfl, Fr0, Fr0⟩, fun w h f F q1 q2 q3 q4 q5 q6 q7 => absurd ((nI_eq (a := 0) (b := F) (by omega) (by omega)).mp q3) (by omega)⟩
