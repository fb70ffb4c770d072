/-! THE ONE WORLD: every cell of the class and of the reference has a number k below 103; ad G k is its address. The store: what the fields and elements hold; of the references only WayCounter's here and there can change. -/
abbrev St : Type := (Nat → Nat → Int32) × (Nat × Nat)
def up (σ : St) (k j : Nat) (v : Int32) : St := (fun a b => if a = k ∧ b = j then v else σ.1 a b, σ.2)
def kdl : List Nat := [9, 5, 11, 0, 11, 11, 11, 8, 11, 11, 8, 11, 11, 13, 12, 6, 14, 11, 11, 7, 4, 11, 11, 11, 4, 11, 11, 11, 2, 11, 11, 11, 11, 1, 1, 1, 1, 1, 1, 1, 3, 1, 11, 12, 3, 1, 11, 12, 3, 1, 11, 12, 3, 1, 11, 12, 3, 1, 11, 12, 3, 1, 11, 12, 3, 1, 11, 12, 3, 1, 11, 12, 10, 11, 11, 11, 11, 11, 11, 11, 11, 11, 11, 11, 11, 11, 11, 12, 11, 11, 11, 11, 12, 11, 11, 11, 11, 11, 11, 11, 11, 11, 12]
def lnl : List Nat := [0, 0, 576, 0, 8, 8, 24, 0, 192, 192, 0, 192, 192, 8, 8, 0, 7, 6, 6, 0, 0, 4608, 4608, 4608, 0, 4608, 4608, 4608, 0, 4, 4, 576, 576, 0, 0, 0, 0, 0, 0, 0, 0, 0, 60, 60, 0, 0, 60, 60, 0, 0, 60, 60, 0, 0, 60, 60, 0, 0, 60, 60, 0, 0, 60, 60, 0, 0, 60, 60, 0, 0, 60, 60, 0, 576, 8, 8, 24, 384, 384, 8, 8, 8, 8, 8, 8, 8, 8, 8, 8, 8, 488, 488, 488, 4, 4, 4, 6, 4608, 4608, 4608, 4608, 576, 8]
/-- the kind of a cell: 0 to 10 an object, 11 ints, 12 booleans, 13 flights, 14 balloons -/
def kd (k : Nat) : Nat := kdl.getD k 99
def ln (k : Nat) : Nat := lnl.getD k 0
def nF (ci : Nat) : Nat := [5, 8, 6, 7, 4, 3, 11, 6, 2, 8, 43].getD ci 0
def rBl : List (List Bool) := [[true, true, true, true, true], [false, false, false, false, false, false, false, false], [true, true, true, false, true, true], [true, true, true, false, false, false, false], [true, true, true, false], [false, false, true], [true, true, true, true, true, false, false, false, false, false, false], [true, true, true, true, false, false], [true, true], [true, true, true, true, false, true, true, true], [false, false, true, true, true, true, true, true, false, true, true, true, true, true, true, true, true, true, true, true, true, true, true, false, true, true, true, true, false, false, false, false, false, false, false, true, true, true, true, false, false, true, true]]
/-- is a field a reference -/
def rB (ci j : Nat) : Bool := (rBl.getD ci []).getD j false
/-- where a reference leads -/
def rfc (b : Nat × Nat) (ci k j : Nat) : Nat := match ci with
  | 0 => ([4, 5, 6, 7, 10] : List Nat).getD j 0
  | 2 => ([1, 29, 30, 0, 31, 32] : List Nat).getD j 0
  | 5 => ([0, 0, 2] : List Nat).getD j 0
  | 6 => ([1, 3, 16, 17, 18] : List Nat).getD j 0
  | 9 => ([1, 3, 13, 14, 0, 15, 19, 28] : List Nat).getD j 0
  | 10 => ([0, 0, 73, 74, 75, 76, 77, 78, 0, 79, 80, 81, 82, 83, 84, 85, 86, 87, 88, 89, 90, 91, 92, 0, 93, 94, 95, 96, 0, 0, 0, 0, 0, 0, 0, 97, 98, 99, 100, 0, 0, 101, 102] : List Nat).getD j 0
  | 7 => match j with
    | 0 => 1
    | 1 => 7
    | 2 => b.1
    | _ => b.2
  | _ => k + 1 + j
/-- class and slot ids, array class ids, addresses, the two static tables -/
abbrev Gp : Type := va_G × (Nat → ClassId) × (Nat → Nat) × Nat × Nat
abbrev ad (G : Gp) : Nat → Nat := G.2.2.1
def fv (G : Gp) (r : Nat → Int32) (b : Nat × Nat) (ci k j : Nat) : Value := if rB ci j = true then .ref (ad G (rfc b ci k j)) else .int (r j)
def fl (G : Gp) (r : Nat → Int32) (b : Nat × Nat) (ci k : Nat) : List Value := (List.range (nF ci)).map (fv G r b ci k)
def ent (G : Gp) (r : Nat → Int32) (b : Nat × Nat) (k : Nat) : va_E :=
  if kd k = 11 then .inl (G.2.1 0, ln k, .inl r)
  else if kd k = 12 then .inl (G.2.1 1, ln k, .inl r)
  else if kd k = 13 then .inl (G.2.1 2, ln k, .inr (.inr (.inr (.inr (fun j => some (ad G (40 + 4 * j)))))))
  else if kd k = 14 then .inl (G.2.1 3, ln k, .inr (.inr (.inr (.inr (fun j => some (ad G (33 + j)))))))
  else .inr (kd k, fl G r b (kd k) k)
def wl (G : Gp) (σ : St) : va_W := (List.range 103).map (fun k => (ad G k, ent G (σ.1 k) σ.2 k))
theorem wl_at {G : Gp} {σ : St} {k : Nat} (hk : k < 103) : (wl G σ)[k]? = some (ad G k, ent G (σ.1 k) σ.2 k) := by simp [wl, hk]
theorem kd_lt {k c : Nat} (h : kd k = c) (hc : c < 99) : k < 103 := by
  rcases Nat.lt_or_ge k 103 with h1 | h1
  · exact h1
  · exfalso
    have h2 : kd k = 99 := by
      show (kdl[k]?).getD 99 = 99
      rw [List.getElem?_eq_none (Nat.le_trans (by decide) h1)]
      rfl
    omega
theorem wl_set {G : Gp} {σ σ' : St} {k : Nat} {E : va_E} (hk : k < 103) (he : ent G (σ'.1 k) σ'.2 k = E) (ho : ∀ k', k' ≠ k → ent G (σ'.1 k') σ'.2 k' = ent G (σ.1 k') σ.2 k') : (wl G σ).set k (ad G k, E) = wl G σ' := by
  have hlen : ∀ τ : St, (wl G τ).length = 103 := fun τ => by simp [wl]
  apply List.ext_getElem?
  intro i
  by_cases hi : i < 103
  · rw [wl_at hi]
    by_cases hik : i = k
    · subst hik
      rw [List.getElem?_set_self (by rw [hlen]; exact hi), he]
    · rw [List.getElem?_set_ne (fun h => hik h.symm), wl_at hi, ho i hik]
  · rw [List.getElem?_eq_none (by rw [List.length_set, hlen]; omega), List.getElem?_eq_none (by rw [hlen]; omega)]
theorem up_ne {σ : St} {k j a : Nat} {v : Int32} (h : a ≠ k) : (up σ k j v).1 a = σ.1 a := by
  funext b
  simp [up, h]
theorem up_at {σ : St} {k j : Nat} {v : Int32} : (up σ k j v).1 k = upd (σ.1 k) j v := by
  funext b
  simp [up, upd]
theorem ent_obj {G : Gp} {r : Nat → Int32} {b : Nat × Nat} {k ci : Nat} (h : kd k = ci) (hc : ci < 11) : ent G r b k = .inr (ci, fl G r b ci k) := by
  unfold ent
  rw [h, if_neg (by omega), if_neg (by omega), if_neg (by omega), if_neg (by omega)]
theorem fl_get {G : Gp} {r : Nat → Int32} {b : Nat × Nat} {ci k j N : Nat} (hN : nF ci = N) (hj : j < N) : (fl G r b ci k)[j]? = some (fv G r b ci k j) := by simp [fl, hN, hj]
theorem fl_len {G : Gp} {r : Nat → Int32} {b : Nat × Nat} {ci k : Nat} : (fl G r b ci k).length = nF ci := by simp [fl]
theorem fl_set {G : Gp} {r : Nat → Int32} {b : Nat × Nat} {ci k j : Nat} (hj : j < nF ci) (hr : rB ci j = false) (v : Int32) : (fl G r b ci k).set j (.int v) = fl G (upd r j v) b ci k := by
  apply List.ext_getElem?
  intro i
  by_cases hi : i < nF ci
  · rw [fl_get rfl hi]
    by_cases hij : i = j
    · subst hij
      rw [List.getElem?_set_self (by rw [fl_len]; exact hi)]
      simp [fv, hr, upd]
    · rw [List.getElem?_set_ne (fun h => hij h.symm), fl_get rfl hi]
      simp [fv, upd, hij]
  · rw [List.getElem?_eq_none (by rw [List.length_set, fl_len]; omega), List.getElem?_eq_none (by rw [fl_len]; omega)]
/-- array reads and writes, within bounds or not at all -/
def aL (σ : St) (k n : Nat) (i : Int32) : Option Int32 := if 0 ≤ i ∧ i.toNatClampNeg < n then some (σ.1 k i.toNatClampNeg) else none
def aS (σ : St) (k n : Nat) (i v : Int32) : Option St := if 0 ≤ i ∧ i.toNatClampNeg < n then some (up σ k i.toNatClampNeg v) else none
def inB (n : Nat) (i : Int32) : Option Nat := if 0 ≤ i ∧ i.toNatClampNeg < n then some i.toNatClampNeg else none
/-- a boolean's field, an integer division -/
def bl (x : Int32) : Prop := x = 0 ∨ x = 1
def pZ (σ : St) (k j : Nat) (x : Int32) : Option St := if x = 0 ∨ x = 1 then some (up σ k j x) else none
def nz (x : Int32) : Option Int32 := if x = 0 then none else some x
def bT {α β : Type} (a : α) (f : α → β) : β := f a
theorem bT_out {α β : Type} {a : α} {f : α → β} {v : β} (h : bT a f = v) : ∃ q, q = a ∧ f q = v := ⟨a, rfl, h⟩
theorem oB_out {α β : Type} {a : Option α} {f : α → Option β} {v : β} (h : Option.bind a f = some v) : ∃ q, a = some q ∧ f q = some v := by
  cases a with
  | none => cases h
  | some q => exact ⟨q, rfl, h⟩
theorem if_t {α : Type} {c : Prop} {d : Decidable c} {a b v : α} (hc : c) (h : @ite α c d a b = v) : a = v := by rw [if_pos hc] at h; exact h
theorem if_f {α : Type} {c : Prop} {d : Decidable c} {a b v : α} (hc : ¬ c) (h : @ite α c d a b = v) : b = v := by rw [if_neg hc] at h; exact h
theorem vp_in_ok {i : Int32} {n : Nat} (h : 0 ≤ i ∧ i.toNatClampNeg < n) : vp_in i n := by
  intro q
  rcases q with q | q
  · exact absurd h.1 (Int32.not_le.mpr q)
  · omega
theorem aL_in {σ : St} {k n : Nat} {i v : Int32} (h : aL σ k n i = some v) : vp_in i n ∧ σ.1 k i.toNatClampNeg = v := by
  unfold aL at h
  by_cases hc : 0 ≤ i ∧ i.toNatClampNeg < n
  · rw [if_pos hc] at h
    exact ⟨vp_in_ok hc, Option.some.inj h⟩
  · rw [if_neg hc] at h
    cases h
theorem aS_in {σ σ' : St} {k n : Nat} {i v : Int32} (h : aS σ k n i v = some σ') : vp_in i n ∧ up σ k i.toNatClampNeg v = σ' := by
  unfold aS at h
  by_cases hc : 0 ≤ i ∧ i.toNatClampNeg < n
  · rw [if_pos hc] at h
    exact ⟨vp_in_ok hc, Option.some.inj h⟩
  · rw [if_neg hc] at h
    cases h
theorem inB_in {n j : Nat} {i : Int32} (h : inB n i = some j) : vp_in i n ∧ i.toNatClampNeg = j ∧ j < n := by
  unfold inB at h
  by_cases hc : 0 ≤ i ∧ i.toNatClampNeg < n
  · rw [if_pos hc] at h
    exact ⟨vp_in_ok hc, Option.some.inj h, by rw [← Option.some.inj h]; exact hc.2⟩
  · rw [if_neg hc] at h
    cases h
theorem pZ_in {σ σ' : St} {k j : Nat} {x : Int32} (h : pZ σ k j x = some σ') : bl x ∧ up σ k j x = σ' := by
  unfold pZ at h
  by_cases hc : x = 0 ∨ x = 1
  · rw [if_pos hc] at h
    exact ⟨hc, Option.some.inj h⟩
  · rw [if_neg hc] at h
    cases h
theorem nz_in {x y : Int32} (h : nz x = some y) : ¬ x = 0 ∧ x = y := by
  unfold nz at h
  by_cases hc : x = 0
  · rw [if_pos hc] at h
    cases h
  · rw [if_neg hc] at h
    exact ⟨hc, Option.some.inj h⟩
theorem bl_nar {x : Int32} (h : bl x) : narrow .boolean (.int x) = .int x := by rcases h with h | h <;> subst h <;> rfl
theorem bl_fit {x : Int32} (h : bl x) : fits .boolean (.int x) = true := by rcases h with h | h <;> subst h <;> rfl
def oB2 {α β γ : Type} (a : Option (α × β)) (f : α → β → Option γ) : Option γ := Option.bind a (fun q => f q.1 q.2)
theorem oB2_out {α β γ : Type} {a : Option (α × β)} {f : α → β → Option γ} {v : γ} (h : oB2 a f = some v) : ∃ x y, a = some (x, y) ∧ f x y = some v := by
  cases a with
  | none => cases h
  | some q => exact ⟨q.1, q.2, rfl, h⟩
theorem rt2 {α β : Type} {a c : α} {b d : β} (h : some (a, b) = some (c, d)) : a = c ∧ b = d := by
  cases h
  exact ⟨rfl, rfl⟩
theorem rt1 {α β : Type} {a c : α} {b d : β} (h : (a, b) = (c, d)) : a = c ∧ b = d := by
  cases h
  exact ⟨rfl, rfl⟩
theorem kd_fl {j : Nat} (h : j < 8) : kd (40 + 4 * j) = 3 := (by decide : ∀ j, j < 8 → kd (40 + 4 * j) = 3) j h
theorem kd_bh {j : Nat} (h : j < 7) : kd (33 + j) = 1 := (by decide : ∀ j, j < 7 → kd (33 + j) = 1) j h
theorem kf_all : ∀ k, k < 103 → kd k = 3 → kd (k + 1) = 1 ∧ kd (k + 2) = 11 ∧ ln (k + 2) = 60 ∧ kd (k + 3) = 12 ∧ ln (k + 3) = 60 := by decide
theorem kf_b {k : Nat} (h : kd k = 3) : kd (k + 1) = 1 := (kf_all k (kd_lt h (by decide)) h).1
theorem kf_p {k : Nat} (h : kd k = 3) : kd (k + 2) = 11 := (kf_all k (kd_lt h (by decide)) h).2.1
theorem kf_pl {k : Nat} (h : kd k = 3) : ln (k + 2) = 60 := (kf_all k (kd_lt h (by decide)) h).2.2.1
theorem kf_l {k : Nat} (h : kd k = 3) : kd (k + 3) = 12 := (kf_all k (kd_lt h (by decide)) h).2.2.2.1
theorem kf_ll {k : Nat} (h : kd k = 3) : ln (k + 3) = 60 := (kf_all k (kd_lt h (by decide)) h).2.2.2.2
theorem kw_all : ∀ k, k < 103 → kd k = 8 → kd (k + 1) = 11 ∧ ln (k + 1) = 192 ∧ kd (k + 2) = 11 ∧ ln (k + 2) = 192 := by decide
theorem kw_x {k : Nat} (h : kd k = 8) : kd (k + 1) = 11 := (kw_all k (kd_lt h (by decide)) h).1
theorem kw_xl {k : Nat} (h : kd k = 8) : ln (k + 1) = 192 := (kw_all k (kd_lt h (by decide)) h).2.1
theorem kw_y {k : Nat} (h : kd k = 8) : kd (k + 2) = 11 := (kw_all k (kd_lt h (by decide)) h).2.2.1
theorem kw_yl {k : Nat} (h : kd k = 8) : ln (k + 2) = 192 := (kw_all k (kd_lt h (by decide)) h).2.2.2
theorem kr_all : ∀ k, k < 103 → kd k = 4 → (kd (k + 1) = 11 ∧ ln (k + 1) = 4608) ∧ (kd (k + 2) = 11 ∧ ln (k + 2) = 4608) ∧ kd (k + 3) = 11 ∧ ln (k + 3) = 4608 := by decide
theorem kr_p {k : Nat} (h : kd k = 4) : kd (k + 1) = 11 := (kr_all k (kd_lt h (by decide)) h).1.1
theorem kr_pl {k : Nat} (h : kd k = 4) : ln (k + 1) = 4608 := (kr_all k (kd_lt h (by decide)) h).1.2
theorem kr_c {k : Nat} (h : kd k = 4) : kd (k + 2) = 11 := (kr_all k (kd_lt h (by decide)) h).2.1.1
theorem kr_cl {k : Nat} (h : kd k = 4) : ln (k + 2) = 4608 := (kr_all k (kd_lt h (by decide)) h).2.1.2
theorem kr_b {k : Nat} (h : kd k = 4) : kd (k + 3) = 11 := (kr_all k (kd_lt h (by decide)) h).2.2.1
theorem kr_bl {k : Nat} (h : kd k = 4) : ln (k + 3) = 4608 := (kr_all k (kd_lt h (by decide)) h).2.2.2
theorem kd_7 : ∀ k, k < 103 → kd k = 7 → k = 19 := by decide
theorem sw7_out {x : Int32} (h0 : ¬ x = 0) (h1 : ¬ x = 1) (h2 : ¬ x = 2) (h3 : ¬ x = 3) (h4 : ¬ x = 4) (h5 : ¬ x = 5) (h6 : ¬ x = 6) : x.toInt < 0 ∨ 6 < x.toInt := by
  have g0 := lv_neT (a := 0) h0 (by decide)
  have g1 := lv_neT (a := 1) h1 (by decide)
  have g2 := lv_neT (a := 2) h2 (by decide)
  have g3 := lv_neT (a := 3) h3 (by decide)
  have g4 := lv_neT (a := 4) h4 (by decide)
  have g5 := lv_neT (a := 5) h5 (by decide)
  have g6 := lv_neT (a := 6) h6 (by decide)
  omega
theorem sw10_out {x : Int32} (h0 : ¬ x = 0) (h1 : ¬ x = 1) (h2 : ¬ x = 2) (h3 : ¬ x = 3) (h4 : ¬ x = 4) (h5 : ¬ x = 5) (h6 : ¬ x = 6) (h7 : ¬ x = 7) (h8 : ¬ x = 8) (h9 : ¬ x = 9) : x.toInt < 0 ∨ 9 < x.toInt := by
  have g0 := lv_neT (a := 0) h0 (by decide)
  have g1 := lv_neT (a := 1) h1 (by decide)
  have g2 := lv_neT (a := 2) h2 (by decide)
  have g3 := lv_neT (a := 3) h3 (by decide)
  have g4 := lv_neT (a := 4) h4 (by decide)
  have g5 := lv_neT (a := 5) h5 (by decide)
  have g6 := lv_neT (a := 6) h6 (by decide)
  have g7 := lv_neT (a := 7) h7 (by decide)
  have g8 := lv_neT (a := 8) h8 (by decide)
  have g9 := lv_neT (a := 9) h9 (by decide)
  omega
def sdx (i : Int32) : Option Int32 := if 0 ≤ i ∧ i.toNatClampNeg < 4 then some (([1, -1, 0, 0] : List Int32).getD i.toNatClampNeg 0) else none
def sdy (i : Int32) : Option Int32 := if 0 ≤ i ∧ i.toNatClampNeg < 4 then some (([0, 0, 1, -1] : List Int32).getD i.toNatClampNeg 0) else none
/-! the world's words -/
abbrev tyl (G : Gp) : List (ClassId × FieldType) := [(G.2.1 0, .int), (G.2.1 1, .boolean), (G.2.1 2, .object RX3), (G.2.1 3, .object RX1)]
def sxV (j : Nat) : Value := .int (([1, -1, 0, 0] : List Int32).getD j 0)
def syV (j : Nat) : Value := .int (([0, 0, 1, -1] : List Int32).getD j 0)
def Zs (G : Gp) (A : Nat → Prop) (U : State) (H : Heap) : Prop := va_Z "GasVoyages" "SIDE_X" "[I" (.ref G.2.2.2.1) A U H ∧ va_T .int G.2.2.2.1 4 sxV A U H ∧ va_Z "GasVoyages" "SIDE_Y" "[I" (.ref G.2.2.2.2) A U H ∧ va_T .int G.2.2.2.2 4 syV A U H
theorem sdx_in {i v : Int32} (h : sdx i = some v) : vp_in i 4 ∧ sxV i.toNatClampNeg = .int v := by
  unfold sdx at h
  by_cases hc : 0 ≤ i ∧ i.toNatClampNeg < 4
  · rw [if_pos hc] at h
    exact ⟨vp_in_ok hc, congrArg Value.int (Option.some.inj h)⟩
  · rw [if_neg hc] at h
    cases h
theorem sdy_in {i v : Int32} (h : sdy i = some v) : vp_in i 4 ∧ syV i.toNatClampNeg = .int v := by
  unfold sdy at h
  by_cases hc : 0 ≤ i ∧ i.toNatClampNeg < 4
  · rw [if_pos hc] at h
    exact ⟨vp_in_ok hc, congrArg Value.int (Option.some.inj h)⟩
  · rw [if_neg hc] at h
    cases h
theorem ent_b {G : Gp} {r : Nat → Int32} {b b' : Nat × Nat} {k : Nat} (h : kd k ≠ 7) : ent G r b k = ent G r b' k := by
  have h1 : ∀ j, rfc b (kd k) k j = rfc b' (kd k) k j := by
    intro j
    generalize kd k = ci at h
    unfold rfc
    split <;> first | rfl | exact absurd rfl h
  have h2 : fl G r b (kd k) k = fl G r b' (kd k) k := by
    unfold fl
    apply List.map_congr_left
    intro j _
    unfold fv
    rw [h1 j]
  unfold ent
  rw [h2]
def nstM : List (String × Nat × MethodName) := [(RX5, 28, yX9_within), (RX3, 67, yX9_placeOf), (RX5, 32, yX9_xOf), (RX5, 36, yX9_yOf), (RX5, 43, yX9_cellOf), (RX3, 76, yX9_squareBetween), (RX6, 89, yX9_squareBetween), (RX7, 61, yX9_cellOfPlace), (RX7, 57, yX9_levelOfPlace), (RX7, 79, yX9_placeOf), (RX9, 11, yX5_init), (RX0, 23, yX8_init), (RX6, 36, yX1_init), (RX7, 11, yX4_init), (RX9, 68, yX3_init), (RX3, 11, yX1_init)]
def Nst (U : State) : Prop := (∀ q ∈ nstM, va_Nw (.methodLinkNest q.1 q.2.1 q.2.2 "GasVoyages") U) ∧ va_Nw (.fieldLinkNest RX2 47 "GasVoyages" "SIDE_X" "[I" "GasVoyages") U ∧ va_Nw (.fieldLinkNest RX2 50 "GasVoyages" "SIDE_Y" "[I" "GasVoyages") U
def Ev (G : Gp) (A : Nat → Prop) (U : State) : Prop := va_K G.1 vwCl (tyl G) U ∧ Zs G A U U.heap ∧ Nst U
def fok (σ : St) : Prop := kd σ.2.1 = 4 ∧ kd σ.2.2 = 4
def Ww (G : Gp) (A : Nat → Prop) (σ : St) (s : State) (H : Heap) (locs : List Loc) : Prop := va_P G.1 vwCl (wl G σ) H ∧ va_D A (wl G σ) ∧ va_S A s.heap H locs ∧ fok σ
def Po (G : Gp) (A : Nat → Prop) (σ : St) (t : State) : Prop := va_P G.1 vwCl (wl G σ) t.heap ∧ va_D A (wl G σ) ∧ fok σ
def Pr (G : Gp) (A : Nat → Prop) (σ : St) (U : State) : Prop := Ev G A U ∧ Po G A σ U
theorem Nst.go {s U : State} (hW : s.WarmedH U.vm) (h : Nst s) : Nst U := ⟨fun q hq => va_Nw.warmM hW (h.1 q hq), va_Nw.warmF hW h.2.1, va_Nw.warmF hW h.2.2⟩
theorem Nst.same {s U : State} (hv : s.vm = U.vm) (h : Nst s) : Nst U := ⟨fun q hq => va_Nw.same rfl hv (h.1 q hq), va_Nw.same rfl hv h.2.1, va_Nw.same rfl hv h.2.2⟩
theorem Ev.go {G : Gp} {A : Nat → Prop} {s U : State} {H : Heap} {locs : List Loc} (hE : Ev G A s) (hS : va_S A s.heap H locs) (hU : U.heap = H) (hW : s.WarmedH U.vm) : Ev G A U := by
  subst hU
  obtain ⟨h1, ⟨z1, z2, z3, z4⟩, h3⟩ := hE
  exact ⟨h1.moved hW.alike, ⟨(z1.kept hS.2.1).moved hW.alike, (z2.kept hS.2.1).moved hW.alike, (z3.kept hS.2.1).moved hW.alike, (z4.kept hS.2.1).moved hW.alike⟩, h3.go hW⟩
theorem Pr_blind (G : Gp) (A : Nat → Prop) (σ : St) (av : List Value) : FrameBlind (va_Pc av (Pr G A σ)) := by
  intro a U g mk h
  obtain ⟨h0, ⟨h1, ⟨z1, z2, z3, z4⟩, h3⟩, h4⟩ := h
  have hA : U.vm.Alike (U.calling g mk a).vm := Vm.Alike.refl U.vm
  exact ⟨h0, ⟨va_K.moved hA h1, ⟨va_Z.moved (u := U) hA z1, va_T.moved (u := U) hA z2, va_Z.moved (u := U) hA z3, va_T.moved (u := U) hA z4⟩, Nst.same (s := U) rfl h3⟩, h4⟩
def rmd (d : Nat) : Room := { frames := d, cells := 0, slots := 0, locals := 64 * d }
/-! contracts: int, boolean, long, void -/
def Ki (l : Launch) (y : MethodName) (ws : List Cond) (d : Nat) (G : Gp) (A : Nat → Prop) (av : List Value) (σ : St) (r : Int32) (σ' : St) : Prop := Met l y ws (rmd d) (va_Pc av (Pr G A σ)) (va_Qi (fun r' (_ : Unit) => r' = r) (fun _ t => Po G A σ' t) A) 0 0 A
def Kz (l : Launch) (y : MethodName) (ws : List Cond) (d : Nat) (G : Gp) (A : Nat → Prop) (av : List Value) (σ : St) (r : Int32) (σ' : St) : Prop := Met l y ws (rmd d) (va_Pc av (Pr G A σ)) (va_Qi (fun r' (_ : Unit) => r' = r ∧ bl r') (fun _ t => Po G A σ' t) A) 0 0 A
def Kl (l : Launch) (y : MethodName) (ws : List Cond) (d : Nat) (G : Gp) (A : Nat → Prop) (av : List Value) (σ : St) (r : Int64) (σ' : St) : Prop := Met l y ws (rmd d) (va_Pc av (Pr G A σ)) (va_Ql (fun r' (_ : Unit) => r' = r) (fun _ t => Po G A σ' t) A) 0 0 A
def Kv (l : Launch) (y : MethodName) (ws : List Cond) (d : Nat) (G : Gp) (A : Nat → Prop) (av : List Value) (σ : St) (σ' : St) : Prop := Met l y ws (rmd d) (va_Pc av (Pr G A σ)) (va_Qv (fun (_ : Unit) => True) (fun _ t => Po G A σ' t) A) 0 0 A
abbrev Qi (below : List Frame) (args : Array Value) (s : State) (G : Gp) (A : Nat → Prop) (r : Int32) (σ' : St) : State → Prop := MQ below (va_Qi (fun r' (_ : Unit) => r' = r) (fun _ t => Po G A σ' t) A) args s 0 0 A
abbrev Qz (below : List Frame) (args : Array Value) (s : State) (G : Gp) (A : Nat → Prop) (r : Int32) (σ' : St) : State → Prop := MQ below (va_Qi (fun r' (_ : Unit) => r' = r ∧ bl r') (fun _ t => Po G A σ' t) A) args s 0 0 A
abbrev Ql (below : List Frame) (args : Array Value) (s : State) (G : Gp) (A : Nat → Prop) (r : Int64) (σ' : St) : State → Prop := MQ below (va_Ql (fun r' (_ : Unit) => r' = r) (fun _ t => Po G A σ' t) A) args s 0 0 A
abbrev Qv (below : List Frame) (args : Array Value) (s : State) (G : Gp) (A : Nat → Prop) (σ' : St) : State → Prop := MQ below (va_Qv (fun (_ : Unit) => True) (fun _ t => Po G A σ' t) A) args s 0 0 A
section RR
variable {p : Program} {l : Launch} {e : Env} {R : Room} {s : State} {m : MethodId} {args : Array Value} {below : List Frame} {meth : Method} {c : Code} {H : Heap} {locs : List Loc} {cells slots : Nat} {Q : State → Prop}
variable {cc : ByteArray} {nL pc : Nat} {ls : Array Slot} {rest st0 : List Value} {Ts : List Cond} {own : String} {G : Gp} {A : Nat → Prop} {σ σ' : St}
theorem r_start {y : MethodName} {ws ws' : List Cond} {maxL d : Nat} {ret : Option FieldType} {Qc : Array Value → State → Outcome → State → Prop} (hy : plainName y.cls = true) (hw : ws = Cond.code y cc maxL ret :: ws') (av : List Value) (hav : (lg_sl av).length ≤ maxL)
    (body : ∀ (p : Program) (e : Env) (s : State) (m : MethodId) (below : List Frame) (meth : Method) (c : Code), CallFix p m c cc maxL s av.toArray ws y.cls → meth.sig.returnType = ret → meth.locks = false → Ev G A s → Ww G A σ s s.heap [] → ∀ ls : Array Slot, lv_has ls maxL (lv_args 0 av) → W p l e (rmd d) s m av.toArray below meth c s.heap [] 0 0 (MQ below Qc av.toArray s 0 0 A) (F0 m 0 ls [])) : Met l y ws (rmd d) (va_Pc av (Pr G A σ)) Qc 0 0 A := by
  refine Met.ofW (cc := cc) (maxL := maxL) (ret := ret) hy hw ?_
  intro p e s m args below meth c s₁ B hml hv
  obtain ⟨rfl, hE, hP, hD, hf⟩ := hv
  have hts := atoms_spec (ws := ws) B.pre
  have hown : s.vm.findClass y.cls = some m.cls := findClass_of_methodNamed B.named
  have hl := lv_entry av (n := maxL) hav
  rw [lg_entry_eq]
  exact body p e s m below meth c ⟨B.exec, B.bytes, hml, hown, hts⟩ B.returns B.notSynchronized hE ⟨hP, hD, va_S.rf, hf⟩ _ hl
theorem r_gi (S : CallFix p m c cc nL s args Ts own) (hE : Ev G A s) (hw : Ww G A σ s H locs) {C : String} {T : u_T} {N ci index k : Nat} (j : Nat) (hin : ∀ w ∈ u_ws C T N, w ∈ Ts) (hkd : kd k = ci) (hc : vwCl[ci]? = some (C, T, N)) (hq : ci < 11 ∧ nF ci = N ∧ j < N ∧ rB ci j = false) (hlink : (Cond.fieldLink own index (T j).1 (T j).2.1 (T j).2.2.1).before args s = true) (hdg : decode cc pc = .ok (.getfield index, 3))
    (kk : W p l e R s m args below meth c H locs cells slots Q (F0 m (pc + 3) ls (.int (σ.1 k j) :: rest))) : W p l e R s m args below meth c H locs cells slots Q (F0 m pc ls (.ref (ad G k) :: rest)) := by
  obtain ⟨hx, hb, hml, hown, hts⟩ := S
  obtain ⟨hP, hD, hS, hf⟩ := hw
  obtain ⟨h1, h2, h3, h4⟩ := hq
  have hk := kd_lt hkd (by omega)
  refine va_get (D := G.1) (ci := ci) (v := .int (σ.1 k j)) hx hb hts hin hown hE.1 hP k (by rw [wl_at hk, ent_obj hkd h1]) hc j h3 hlink (fun _ h9 => h9) ?_ hdg kk
  rw [fl_get h2 h3]
  simp [fv, h4]
theorem r_gr (S : CallFix p m c cc nL s args Ts own) (hE : Ev G A s) (hw : Ww G A σ s H locs) {C : String} {T : u_T} {N ci index k : Nat} (j : Nat) (t : Nat) (hin : ∀ w ∈ u_ws C T N, w ∈ Ts) (hkd : kd k = ci) (hc : vwCl[ci]? = some (C, T, N)) (hq : ci < 11 ∧ nF ci = N ∧ j < N ∧ rB ci j = true) (ht : rfc σ.2 ci k j = t) (hlink : (Cond.fieldLink own index (T j).1 (T j).2.1 (T j).2.2.1).before args s = true) (hdg : decode cc pc = .ok (.getfield index, 3))
    (kk : W p l e R s m args below meth c H locs cells slots Q (F0 m (pc + 3) ls (.ref (ad G t) :: rest))) : W p l e R s m args below meth c H locs cells slots Q (F0 m pc ls (.ref (ad G k) :: rest)) := by
  obtain ⟨hx, hb, hml, hown, hts⟩ := S
  obtain ⟨hP, hD, hS, hf⟩ := hw
  obtain ⟨h1, h2, h3, h4⟩ := hq
  have hk := kd_lt hkd (by omega)
  refine va_get (D := G.1) (ci := ci) (v := .ref (ad G t)) hx hb hts hin hown hE.1 hP k (by rw [wl_at hk, ent_obj hkd h1]) hc j h3 hlink (fun _ h9 => h9) ?_ hdg kk
  rw [fl_get h2 h3]
  simp [fv, h4, ht]
theorem r_pi (S : CallFix p m c cc nL s args Ts own) (hE : Ev G A s) (hw : Ww G A σ s H locs) {C : String} {T : u_T} {N ci index k : Nat} (j : Nat) (v : Int32) (hin : ∀ w ∈ u_ws C T N, w ∈ Ts) (ty0 : Nat → FieldType) (hty : ∀ k, k < N → parseFieldDescriptor (T k).2.2.1 = some (ty0 k)) (hnm : ∀ a, a < N → ∀ b, b < N → a ≠ b → (T a).2.1 ≠ (T b).2.1) (hkd : kd k = ci) (hc : vwCl[ci]? = some (C, T, N)) (hq : ci < 11 ∧ nF ci = N ∧ j < N ∧ rB ci j = false) (hlink : (Cond.fieldLink own index (T j).1 (T j).2.1 (T j).2.2.1).before args s = true) (hfin : (T j).2.2.2 = false) {ty : FieldType} (hd : parseFieldDescriptor (T j).2.2.1 = some ty) (hn : narrow ty (.int v) = .int v) (hfit : fits ty (.int v) = true) (hdg : decode cc pc = .ok (.putfield index, 3))
    (kk : ∀ (H1 : Heap) (locs1 : List Loc), Ww G A (up σ k j v) s H1 locs1 → W p l e R s m args below meth c H1 locs1 cells slots Q (F0 m (pc + 3) ls rest)) : W p l e R s m args below meth c H locs cells slots Q (F0 m pc ls (.int v :: .ref (ad G k) :: rest)) := by
  obtain ⟨hx, hb, hml, hown, hts⟩ := S
  obtain ⟨hP, hD, hS, hf⟩ := hw
  obtain ⟨h1, h2, h3, h4⟩ := hq
  have hk := kd_lt hkd (by omega)
  refine va_put (D := G.1) (ci := ci) (v := .int v) hx hb hts hin ty0 hty hnm hown hE.1 hP hD hS k (by rw [wl_at hk, ent_obj hkd h1]) hc j h3 hlink (fun _ h9 => h9) hfin hd hn hfit (by rw [fl_len, h2]; exact h3) hdg (fun H1 locs1 hP hD hS => ?_)
  have he : (wl G σ).set k (ad G k, .inr (ci, (fl G (σ.1 k) σ.2 ci k).set j (.int v))) = wl G (up σ k j v) := wl_set hk (by rw [up_at, ent_obj hkd h1, fl_set (by rw [h2]; exact h3) h4]; rfl) (fun k' hne => by rw [up_ne hne]; rfl)
  rw [he] at hP hD
  exact kk H1 locs1 ⟨hP, hD, hS, hf⟩
theorem r_al (S : CallFix p m c cc nL s args Ts own) (hE : Ev G A s) (hw : Ww G A σ s H locs) {k n : Nat} {i v : Int32} (hkd : kd k = 11) (hn : ln k = n) (ha : aL σ k n i = some v) (hdg : decode cc pc = .ok (.iaload, 1))
    (kk : W p l e R s m args below meth c H locs cells slots Q (F0 m (pc + 1) ls (.int v :: rest))) : W p l e R s m args below meth c H locs cells slots Q (F0 m pc ls (.int i :: .ref (ad G k) :: rest)) := by
  obtain ⟨hx, hb, hml, hown, hts⟩ := S
  obtain ⟨hP, hD, hS, hf⟩ := hw
  obtain ⟨h1, h2⟩ := aL_in ha
  have hk := kd_lt hkd (by omega)
  subst h2
  exact va_iald hx hb hE.1 hP k 0 (n := n) (f := σ.1 k) (by rw [wl_at hk]; simp [ent, hkd, hn]) rfl h1 hdg kk
theorem r_zl (S : CallFix p m c cc nL s args Ts own) (hE : Ev G A s) (hw : Ww G A σ s H locs) {k n : Nat} {i v : Int32} (hkd : kd k = 12) (hn : ln k = n) (ha : aL σ k n i = some v) (hdg : decode cc pc = .ok (.baload, 1))
    (kk : W p l e R s m args below meth c H locs cells slots Q (F0 m (pc + 1) ls (.int v :: rest))) : W p l e R s m args below meth c H locs cells slots Q (F0 m pc ls (.int i :: .ref (ad G k) :: rest)) := by
  obtain ⟨hx, hb, hml, hown, hts⟩ := S
  obtain ⟨hP, hD, hS, hf⟩ := hw
  obtain ⟨h1, h2⟩ := aL_in ha
  have hk := kd_lt hkd (by omega)
  subst h2
  exact va_zald hx hb hE.1 hP k 1 (n := n) (f := σ.1 k) (by rw [wl_at hk]; simp [ent, hkd, hn]) rfl h1 hdg kk
theorem r_as (S : CallFix p m c cc nL s args Ts own) (hE : Ev G A s) (hw : Ww G A σ s H locs) {k n : Nat} {i v : Int32} (hkd : kd k = 11) (hn : ln k = n) (ha : aS σ k n i v = some σ') (hdg : decode cc pc = .ok (.iastore, 1))
    (kk : ∀ (H1 : Heap) (locs1 : List Loc), Ww G A σ' s H1 locs1 → W p l e R s m args below meth c H1 locs1 cells slots Q (F0 m (pc + 1) ls rest)) : W p l e R s m args below meth c H locs cells slots Q (F0 m pc ls (.int v :: .int i :: .ref (ad G k) :: rest)) := by
  obtain ⟨hx, hb, hml, hown, hts⟩ := S
  obtain ⟨hP, hD, hS, hf⟩ := hw
  obtain ⟨h1, h2⟩ := aS_in ha
  have hk := kd_lt hkd (by omega)
  subst h2
  refine va_iast hx hb hE.1 hP hD hS k 0 (n := n) (f := σ.1 k) (by rw [wl_at hk]; simp [ent, hkd, hn]) rfl h1 hdg (fun H1 locs1 hP hD hS => ?_)
  have he : (wl G σ).set k (ad G k, .inl (G.2.1 0, n, .inl (upd (σ.1 k) i.toNatClampNeg v))) = wl G (up σ k i.toNatClampNeg v) := wl_set hk (by rw [up_at]; simp [ent, hkd, hn]) (fun k' hne => by rw [up_ne hne]; rfl)
  rw [he] at hP hD
  exact kk H1 locs1 ⟨hP, hD, hS, hf⟩
theorem r_zs (S : CallFix p m c cc nL s args Ts own) (hE : Ev G A s) (hw : Ww G A σ s H locs) {k n : Nat} {i v : Int32} (hkd : kd k = 12) (hn : ln k = n) (ha : aS σ k n i (vp_nar .boolean v) = some σ') (hdg : decode cc pc = .ok (.bastore, 1))
    (kk : ∀ (H1 : Heap) (locs1 : List Loc), Ww G A σ' s H1 locs1 → W p l e R s m args below meth c H1 locs1 cells slots Q (F0 m (pc + 1) ls rest)) : W p l e R s m args below meth c H locs cells slots Q (F0 m pc ls (.int v :: .int i :: .ref (ad G k) :: rest)) := by
  obtain ⟨hx, hb, hml, hown, hts⟩ := S
  obtain ⟨hP, hD, hS, hf⟩ := hw
  obtain ⟨h1, h2⟩ := aS_in ha
  have hk := kd_lt hkd (by omega)
  subst h2
  refine va_zast hx hb hE.1 hP hD hS k 1 (n := n) (f := σ.1 k) (by rw [wl_at hk]; simp [ent, hkd, hn]) rfl h1 hdg (fun H1 locs1 hP hD hS => ?_)
  have he : (wl G σ).set k (ad G k, .inl (G.2.1 1, n, .inl (upd (σ.1 k) i.toNatClampNeg (vp_nar .boolean v)))) = wl G (up σ k i.toNatClampNeg (vp_nar .boolean v)) := wl_set hk (by rw [up_at]; simp [ent, hkd, hn]) (fun k' hne => by rw [up_ne hne]; rfl)
  rw [he] at hP hD
  exact kk H1 locs1 ⟨hP, hD, hS, hf⟩
theorem r_ln (S : CallFix p m c cc nL s args Ts own) (hE : Ev G A s) (hw : Ww G A σ s H locs) {k : Nat} (hkd : kd k = 11) (hdg : decode cc pc = .ok (.arraylength, 1))
    (kk : W p l e R s m args below meth c H locs cells slots Q (F0 m (pc + 1) ls (.int (nI (ln k)) :: rest))) : W p l e R s m args below meth c H locs cells slots Q (F0 m pc ls (.ref (ad G k) :: rest)) := by
  obtain ⟨hx, hb, hml, hown, hts⟩ := S
  obtain ⟨hP, hD, hS, hf⟩ := hw
  have hk := kd_lt hkd (by omega)
  exact va_alen hx hb hE.1 hP k 0 (x := (ln k, .inl (σ.1 k))) (ty := .int) (by rw [wl_at hk]; simp [ent, hkd]) rfl rfl hdg kk
theorem r_rf (S : CallFix p m c cc nL s args Ts own) (hE : Ev G A s) (hw : Ww G A σ s H locs) {k j : Nat} {i : Int32} (hkd : kd k = 13 ∧ ln k = 8) (ha : inB 8 i = some j) (hdg : decode cc pc = .ok (.aaload, 1))
    (kk : W p l e R s m args below meth c H locs cells slots Q (F0 m (pc + 1) ls (.ref (ad G (40 + 4 * j)) :: rest))) : W p l e R s m args below meth c H locs cells slots Q (F0 m pc ls (.int i :: .ref (ad G k) :: rest)) := by
  obtain ⟨hx, hb, hml, hown, hts⟩ := S
  obtain ⟨hP, hD, hS, hf⟩ := hw
  obtain ⟨h1, h2, h3⟩ := inB_in ha
  have hk := kd_lt hkd.1 (by omega)
  subst h2
  exact va_aldq hx hb hE.1 hP k 2 (n := 8) (f := fun j => some (ad G (40 + 4 * j))) (by rw [wl_at hk]; simp [ent, hkd.1, hkd.2]) rfl h1 hdg kk
theorem r_rb (S : CallFix p m c cc nL s args Ts own) (hE : Ev G A s) (hw : Ww G A σ s H locs) {k j : Nat} {i : Int32} (hkd : kd k = 14 ∧ ln k = 7) (ha : inB 7 i = some j) (hdg : decode cc pc = .ok (.aaload, 1))
    (kk : W p l e R s m args below meth c H locs cells slots Q (F0 m (pc + 1) ls (.ref (ad G (33 + j)) :: rest))) : W p l e R s m args below meth c H locs cells slots Q (F0 m pc ls (.int i :: .ref (ad G k) :: rest)) := by
  obtain ⟨hx, hb, hml, hown, hts⟩ := S
  obtain ⟨hP, hD, hS, hf⟩ := hw
  obtain ⟨h1, h2, h3⟩ := inB_in ha
  have hk := kd_lt hkd.1 (by omega)
  subst h2
  exact va_aldq hx hb hE.1 hP k 3 (n := 7) (f := fun j => some (ad G (33 + j))) (by rw [wl_at hk]; simp [ent, hkd.1, hkd.2]) rfl h1 hdg kk
theorem r_ph (S : CallFix p m c cc nL s args Ts own) (hE : Ev G A s) (hw : Ww G A σ s H locs) {index : Nat} (x : Nat) (hx4 : kd x = 4) (hin : ∀ w ∈ u_ws RX7 TX7 6, w ∈ Ts) (hlink : (Cond.fieldLink own index "GasVoyages$WayCounter" "here" "LGasVoyages$Front;").before args s = true) (hdg : decode cc pc = .ok (.putfield index, 3))
    (kk : ∀ (H1 : Heap) (locs1 : List Loc), Ww G A (σ.1, (x, σ.2.2)) s H1 locs1 → W p l e R s m args below meth c H1 locs1 cells slots Q (F0 m (pc + 3) ls rest)) : W p l e R s m args below meth c H locs cells slots Q (F0 m pc ls (.ref (ad G x) :: .ref (ad G 19) :: rest)) := by
  obtain ⟨hx, hb, hml, hown, hts⟩ := S
  obtain ⟨hP, hD, hS, hf⟩ := hw
  have hkd : kd 19 = 7 := rfl
  have hk : 19 < 103 := by decide
  refine va_put (D := G.1) (ci := 7) (v := .ref (ad G x)) (ty := .object "GasVoyages$Front") hx hb hts hin tyX7 tyX7_ok nmX7 hown hE.1 hP hD hS 19 (by rw [wl_at hk, ent_obj hkd (by decide)]) rfl 2 (by decide) hlink (fun _ h9 => h9) rfl (by decide +kernel) rfl rfl (Nat.le_of_ble_eq_true rfl) hdg (fun H1 locs1 hP hD hS => ?_)
  have he : (wl G σ).set 19 (ad G 19, .inr (7, (fl G (σ.1 19) σ.2 7 19).set 2 (.ref (ad G x)))) = wl G (σ.1, (x, σ.2.2)) := wl_set hk (by rw [ent_obj hkd (by decide)]; rfl) (fun k' hne => by
    by_cases h3 : kd k' = 7
    · exact absurd (kd_7 k' (kd_lt h3 (by decide)) h3) hne
    · exact ent_b h3)
  rw [he] at hP hD
  exact kk H1 locs1 ⟨hP, hD, hS, ⟨hx4, hf.2⟩⟩
theorem r_pt (S : CallFix p m c cc nL s args Ts own) (hE : Ev G A s) (hw : Ww G A σ s H locs) {index : Nat} (x : Nat) (hx4 : kd x = 4) (hin : ∀ w ∈ u_ws RX7 TX7 6, w ∈ Ts) (hlink : (Cond.fieldLink own index "GasVoyages$WayCounter" "there" "LGasVoyages$Front;").before args s = true) (hdg : decode cc pc = .ok (.putfield index, 3))
    (kk : ∀ (H1 : Heap) (locs1 : List Loc), Ww G A (σ.1, (σ.2.1, x)) s H1 locs1 → W p l e R s m args below meth c H1 locs1 cells slots Q (F0 m (pc + 3) ls rest)) : W p l e R s m args below meth c H locs cells slots Q (F0 m pc ls (.ref (ad G x) :: .ref (ad G 19) :: rest)) := by
  obtain ⟨hx, hb, hml, hown, hts⟩ := S
  obtain ⟨hP, hD, hS, hf⟩ := hw
  have hkd : kd 19 = 7 := rfl
  have hk : 19 < 103 := by decide
  refine va_put (D := G.1) (ci := 7) (v := .ref (ad G x)) (ty := .object "GasVoyages$Front") hx hb hts hin tyX7 tyX7_ok nmX7 hown hE.1 hP hD hS 19 (by rw [wl_at hk, ent_obj hkd (by decide)]) rfl 3 (by decide) hlink (fun _ h9 => h9) rfl (by decide +kernel) rfl rfl (Nat.le_of_ble_eq_true rfl) hdg (fun H1 locs1 hP hD hS => ?_)
  have he : (wl G σ).set 19 (ad G 19, .inr (7, (fl G (σ.1 19) σ.2 7 19).set 3 (.ref (ad G x)))) = wl G (σ.1, (σ.2.1, x)) := wl_set hk (by rw [ent_obj hkd (by decide)]; rfl) (fun k' hne => by
    by_cases h3 : kd k' = 7
    · exact absurd (kd_7 k' (kd_lt h3 (by decide)) h3) hne
    · exact ent_b h3)
  rw [he] at hP hD
  exact kk H1 locs1 ⟨hP, hD, hS, ⟨hf.1, hx4⟩⟩
/-! ends -/
theorem r_iret {r : Int32} (S : CallFix p m c cc nL s args Ts own) (hr : meth.sig.returnType = some .int) (hlocks : meth.locks = false) (hw : Ww G A σ s H locs) (hdg : decode cc pc = .ok (.ireturn, 1)) : W p l e R s m args below meth c H locs 0 0 (Qi below args s G A r σ) (F0 m pc ls [.int r]) := by
  obtain ⟨hx, hb, hml, hown, hts⟩ := S
  obtain ⟨hP, hD, hS, hf⟩ := hw
  exact W.iret hx hb hr (fun t ht hW => ⟨⟨r, (), rfl, rfl, by rw [ht]; exact hP, hD, hf⟩, hS.F ht⟩) hS.2.2 hdg hlocks
theorem r_zret {r : Int32} (S : CallFix p m c cc nL s args Ts own) (hr : meth.sig.returnType = some .boolean) (hlocks : meth.locks = false) (hw : Ww G A σ s H locs) (hbl : bl r) (hdg : decode cc pc = .ok (.ireturn, 1)) : W p l e R s m args below meth c H locs 0 0 (Qz below args s G A r σ) (F0 m pc ls [.int r]) := by
  obtain ⟨hx, hb, hml, hown, hts⟩ := S
  obtain ⟨hP, hD, hS, hf⟩ := hw
  exact W.zret hx hb hr (bl_nar hbl) (fun t ht hW => ⟨⟨r, (), rfl, ⟨rfl, hbl⟩, by rw [ht]; exact hP, hD, hf⟩, hS.F ht⟩) hS.2.2 hdg hlocks
theorem r_lret {r : Int64} (S : CallFix p m c cc nL s args Ts own) (hr : meth.sig.returnType = some .long) (hlocks : meth.locks = false) (hw : Ww G A σ s H locs) (hdg : decode cc pc = .ok (.lreturn, 1)) : W p l e R s m args below meth c H locs 0 0 (Ql below args s G A r σ) (F0 m pc ls [.long r]) := by
  obtain ⟨hx, hb, hml, hown, hts⟩ := S
  obtain ⟨hP, hD, hS, hf⟩ := hw
  exact W.lret hx hb hr (fun t ht hW => ⟨⟨r, (), rfl, rfl, by rw [ht]; exact hP, hD, hf⟩, hS.F ht⟩) hS.2.2 hdg hlocks
theorem r_vret (S : CallFix p m c cc nL s args Ts own) (hr : meth.sig.returnType = none) (hlocks : meth.locks = false) (hw : Ww G A σ s H locs) (hdg : decode cc pc = .ok (.return_, 1)) : W p l e R s m args below meth c H locs 0 0 (Qv below args s G A σ) (F0 m pc ls []) := by
  obtain ⟨hx, hb, hml, hown, hts⟩ := S
  obtain ⟨hP, hD, hS, hf⟩ := hw
  exact W.vret hx hb hr (fun t ht hW => ⟨⟨(), rfl, trivial, by rw [ht]; exact hP, hD, hf⟩, hS.F ht⟩) hS.2.2 hdg hlocks
/-! calls: what a run of a callee gives -/
variable {mc ms : Nat} {g : JFrame} {a : Array Value} {d n index maxL : Nat} {y : MethodName} {ws : List Cond} {bytes : ByteArray} {ret : Option FieldType} {As : List Value} {C : String} {T : u_T} {N ci k : Nat} {host : String} {Qc : Array Value → State → Outcome → State → Prop}
theorem Ww.pr {U : State} {av : List Value} (hE : Ev G A s) (hw : Ww G A σ s H locs) (hU : U.heap = H) (hW : s.WarmedH U.vm) : va_Pc av (Pr G A σ) av.toArray U := ⟨rfl, hE.go hw.2.2.1 hU hW, by rw [hU]; exact hw.1, hw.2.1, hw.2.2.2⟩
theorem r_recv (hE : Ev G A s) (hw : Ww G A σ s H locs) (hkd : kd k = ci) (hc : vwCl[ci]? = some (C, T, N)) (hci : ci < 11) : ∃ cell : Cell, H[ad G k]? = some cell ∧ cell.vm.isStatics = false ∧ s.vm.findClass C = some cell.cls :=
  va_recv (q := (C, T, N)) hE.1 hw.1 hc (q0 := k) (by rw [wl_at (kd_lt hkd (by omega)), ent_obj hkd hci])
theorem r_runV (S : CallFix p m c cc nL s args Ts own) (hE : Ev G A s) (hw : Ww G A σ s H locs) (hM : Met l y ws (rmd d) (va_Pc (.ref (ad G k) :: As) (Pr G A σ)) Qc 0 0 A) (cw : CallW R s args own C index y bytes maxL ret ws (rmd d) 0 0 n) (hkd : kd k = ci) (hc : vwCl[ci]? = some (C, T, N)) (hci : ci < 11) (hn : As.length = n) (hsz : ls.size = nL) (hst : st0 = As.reverse ++ .ref (ad G k) :: rest) (hrm : (rest.map fun v => v.category).sum ≤ 8) (hf : cells ≤ R.cells ∧ slots ≤ R.slots) (hdg : decode cc pc = .ok (.invokevirtual index, 3)) :
    va_Run p l e R s m args below meth c H locs cells slots 0 0 (F0 m pc ls st0) rest (Qc (Value.ref (ad G k) :: As).toArray) A :=
  va_runV S hM cw ⟨Pr_blind G A σ _, r_recv hE hw hkd hc hci, fun U hU hW => hw.pr hE hU hW⟩ rfl hn hsz hst (lv_room hrm) hdg hf
theorem r_runS (S : CallFix p m c cc nL s args Ts own) (hE : Ev G A s) (hw : Ww G A σ s H locs) (hM : Met l y ws (rmd d) (va_Pc As (Pr G A σ)) Qc 0 0 A) (cw : CallB R s args own index y bytes maxL ret ws (rmd d) 0 0 n ∧ (Cond.static y).before args s = true) (hn : As.length = n) (hsz : ls.size = nL) (hst : st0 = As.reverse ++ rest) (hrm : (rest.map fun v => v.category).sum ≤ 8) (hf : cells ≤ R.cells ∧ slots ≤ R.slots) (hdg : decode cc pc = .ok (.invokestatic index, 3)) :
    va_Run p l e R s m args below meth c H locs cells slots 0 0 (F0 m pc ls st0) rest (Qc As.toArray) A :=
  va_runS S hM cw ⟨Pr_blind G A σ _, fun U hU hW => hw.pr hE hU hW⟩ rfl hn hsz hst (lv_room hrm) hdg hf
theorem r_runN (S : CallFix p m c cc nL s args Ts own) (hE : Ev G A s) (hw : Ww G A σ s H locs) (hM : Met l y ws (rmd d) (va_Pc As (Pr G A σ)) Qc 0 0 A) (cw : va_CN R s args own index y host bytes maxL ret ws (rmd d) 0 0 n) (hstat : (Cond.static y).before args s = true) (hn : As.length = n) (hsz : ls.size = nL) (hst : st0 = As.reverse ++ rest) (hrm : (rest.map fun v => v.category).sum ≤ 8) (hf : cells ≤ R.cells ∧ slots ≤ R.slots) (hdg : decode cc pc = .ok (.invokestatic index, 3)) :
    va_Run p l e R s m args below meth c H locs cells slots 0 0 (F0 m pc ls st0) rest (Qc As.toArray) A :=
  va_runSN S hM ⟨cw, hstat, trivial⟩ ⟨Pr_blind G A σ _, fun U hU hW => hw.pr hE hU hW⟩ rfl hn hsz hst (lv_room hrm) hdg hf
theorem Ww.back {t : State} {H1 : Heap} {locs1 : List Loc} (hB : Po G A σ' t) (ht : t.heap = H1) (hS : va_S A s.heap H1 locs1) : Ww G A σ' s H1 locs1 := by
  subst ht
  exact ⟨hB.1, hB.2.1, hS, hB.2.2⟩
theorem r_ci {r : Int32} (hr : va_Run p l e R s m args below meth c H locs cells slots 0 0 (F0 m pc ls st0) rest (va_Qi (fun r' (_ : Unit) => r' = r) (fun _ t => Po G A σ' t) A a) A) (hw : Ww G A σ s H locs)
    (kk : ∀ (H1 : Heap) (locs1 : List Loc), Ww G A σ' s H1 locs1 → W p l e R s m args below meth c H1 locs1 cells slots Q (F0 m (pc + 3) ls (.int r :: rest))) : W p l e R s m args below meth c H locs cells slots Q (F0 m pc ls st0) :=
  va_calli hr hw.2.2.1 (fun _ _ h => h) (fun _ h => h) (fun r' u t H1 locs1 ht hvm hp hB hz hk hS => by
    subst hp
    exact kk H1 locs1 (Ww.back hB ht hS))
theorem r_cz {r : Int32} (hr : va_Run p l e R s m args below meth c H locs cells slots 0 0 (F0 m pc ls st0) rest (va_Qi (fun r' (_ : Unit) => r' = r ∧ bl r') (fun _ t => Po G A σ' t) A a) A) (hw : Ww G A σ s H locs)
    (kk : ∀ (H1 : Heap) (locs1 : List Loc), Ww G A σ' s H1 locs1 → bl r → W p l e R s m args below meth c H1 locs1 cells slots Q (F0 m (pc + 3) ls (.int r :: rest))) : W p l e R s m args below meth c H locs cells slots Q (F0 m pc ls st0) :=
  va_calli hr hw.2.2.1 (fun _ _ h => h) (fun _ h => h) (fun r' u t H1 locs1 ht hvm hp hB hz hk hS => by
    obtain ⟨hp, hb⟩ := hp
    subst hp
    exact kk H1 locs1 (Ww.back hB ht hS) hb)
theorem r_cl {r : Int64} (hr : va_Run p l e R s m args below meth c H locs cells slots 0 0 (F0 m pc ls st0) rest (va_Ql (fun r' (_ : Unit) => r' = r) (fun _ t => Po G A σ' t) A a) A) (hw : Ww G A σ s H locs)
    (kk : ∀ (H1 : Heap) (locs1 : List Loc), Ww G A σ' s H1 locs1 → W p l e R s m args below meth c H1 locs1 cells slots Q (F0 m (pc + 3) ls (.long r :: rest))) : W p l e R s m args below meth c H locs cells slots Q (F0 m pc ls st0) :=
  va_calll hr hw.2.2.1 (fun _ _ h => h) (fun _ h => h) (fun r' u t H1 locs1 ht hvm hp hB hz hk hS => by
    subst hp
    exact kk H1 locs1 (Ww.back hB ht hS))
theorem r_cv (hr : va_Run p l e R s m args below meth c H locs cells slots 0 0 (F0 m pc ls st0) rest (va_Qv (fun (_ : Unit) => True) (fun _ t => Po G A σ' t) A a) A) (hw : Ww G A σ s H locs)
    (kk : ∀ (H1 : Heap) (locs1 : List Loc), Ww G A σ' s H1 locs1 → W p l e R s m args below meth c H1 locs1 cells slots Q (F0 m (pc + 3) ls rest)) : W p l e R s m args below meth c H locs cells slots Q (F0 m pc ls st0) :=
  va_callv hr hw.2.2.1 (fun _ _ h => h) (fun _ h => h) (fun u t H1 locs1 ht hvm hp hB hz hk hS => kk H1 locs1 (Ww.back hB ht hS))
end RR
