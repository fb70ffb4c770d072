theorem ar_add {a b : Int32} {x y : Int} (ha : a.toInt = x) (hb : b.toInt = y) (h1 : -2 ^ 31 ≤ x + y) (h2 : x + y < 2 ^ 31) : (a + b).toInt = x + y := by
  rw [Int32.toInt_add, ha, hb, Jvm.Kit.bmod32 h1 h2]
theorem ar_sub {a b : Int32} {x y : Int} (ha : a.toInt = x) (hb : b.toInt = y) (h1 : -2 ^ 31 ≤ x - y) (h2 : x - y < 2 ^ 31) : (a - b).toInt = x - y := by
  rw [Int32.toInt_sub, ha, hb, Jvm.Kit.bmod32 h1 h2]
theorem ar_mul {a b : Int32} {x y : Int} (ha : a.toInt = x) (hb : b.toInt = y) (h1 : -2 ^ 31 ≤ x * y) (h2 : x * y < 2 ^ 31) : (a * b).toInt = x * y := by
  rw [Int32.toInt_mul, ha, hb, Jvm.Kit.bmod32 h1 h2]
/-- lift against weight: the difference tells what the comparison tells -/
theorem lift_cmp {g dk ld bs : Nat} {w : Int32} (hg : g ≤ 500) (hdk : dk ≤ 50) (hw : ib w (-20) 20) (hld : ld ≤ 200) (hbs : bs ≤ 200) : (nI g * (nI dk + w) - 10 * (nI ld + nI bs) ≤ 0 ↔ nI g * (nI dk + w) ≤ 10 * (nI ld + nI bs)) ∧ (0 ≤ nI g * (nI dk + w) - 10 * (nI ld + nI bs) ↔ 10 * (nI ld + nI bs) ≤ nI g * (nI dk + w)) := by
  obtain ⟨w1, w2⟩ := hw
  have e1 : (nI dk + w).toInt = (dk : Int) + w.toInt := ar_add (nI_toInt (by omega)) rfl (by omega) (by omega)
  have p1 : 0 ≤ (g : Int) * (70 - ((dk : Int) + w.toInt)) := Int.mul_nonneg (by omega) (by omega)
  have p2 : 0 ≤ (g : Int) * (((dk : Int) + w.toInt) + 20) := Int.mul_nonneg (by omega) (by omega)
  rw [Int.mul_sub] at p1
  rw [Int.mul_add] at p2
  have e2 : (nI g * (nI dk + w)).toInt = (g : Int) * ((dk : Int) + w.toInt) := ar_mul (nI_toInt (by omega)) e1 (by omega) (by omega)
  have e3 : (nI ld + nI bs).toInt = (ld : Int) + bs := ar_add (nI_toInt (by omega)) (nI_toInt (by omega)) (by omega) (by omega)
  have e4 : (10 * (nI ld + nI bs)).toInt = 10 * ((ld : Int) + bs) := ar_mul (by decide) e3 (by omega) (by omega)
  have e5 := ar_sub e2 e4 (by omega) (by omega)
  have z0 : (0 : Int32).toInt = 0 := by decide
  constructor
  · rw [Int32.le_iff_toInt_le, Int32.le_iff_toInt_le, e5, e2, e4, z0]
    omega
  · rw [Int32.le_iff_toInt_le, Int32.le_iff_toInt_le, e5, e2, e4, z0]
    omega
theorem up_same {σ : St} {k j : Nat} {v : Int32} (h : σ.1 k j = v) : up σ k j v = σ := by
  refine Prod.ext ?_ rfl
  funext a b
  rw [upP]
  by_cases hc : a = k ∧ b = j
  · rw [if_pos hc, hc.1, hc.2, h]
  · rw [if_neg hc]
/-! a tick, in numbers: ballast, gas, level behind it -/
def tB (o d bs : Nat) : Nat := if o = 1 then bs - d else bs
def tG (o d g : Nat) : Nat := if o = 2 then g - d else g
def tV (a h : Int32) (lv : Nat) : Nat := if a ≤ h then (if h ≤ a then lv else lv - 1) else min (lv + 1) 7
theorem less_9 {x d : Nat} (hx : x < 2 ^ 30) (hd : d < 2 ^ 30) : nI x - (if nI x < nI d then nI x else nI d) = nI (x - d) := by
  by_cases h : x < d
  · rw [if_pos (nI_lt h (by omega)), pk_sub (Nat.le_refl x), show x - x = x - d by omega]
  · rw [if_neg (nI_nlt (by omega) (by omega)), pk_sub (by omega)]
theorem spend_s {σ : St} {B o d g bs : Nat} (ho : o ≤ 2) (hd : d ≤ 50) (hg : g ≤ 500) (hbs : bs ≤ 200) (c5 : σ.1 B 4 = nI g) (c6 : σ.1 B 5 = nI bs) : f_X1_spend σ B (nI o) (nI d) = up (up σ B 4 (nI (tG o d g))) B 5 (nI (tB o d bs)) := by
  unfold f_X1_spend tB tG
  rcases (show o = 0 ∨ o = 1 ∨ o = 2 by omega) with h | h | h
  · subst h
    rw [if_neg (by decide), if_neg (by decide), if_neg (by decide), if_neg (by decide), up_same c5, up_same c6]
  · subst h
    rw [if_pos (by decide), bT_e, c6, less_9 (by omega) (by omega), if_neg (by decide), if_pos rfl, up_same c5]
  · subst h
    rw [if_neg (by decide), if_pos (by decide), bT_e, c5, less_9 (by omega) (by omega), if_pos rfl, if_neg (by decide), up_same (σ := up σ B 4 _) (by rw [upP, if_neg (by omega)]; exact c6)]
theorem climb_s {σ : St} {B lv : Nat} {a h v : Int32} (hlv : lv ≤ 7) (c2 : σ.1 B 1 = nI lv) (h1 : v ≤ 0 ↔ a ≤ h) (h2 : 0 ≤ v ↔ h ≤ a) : f_X1_climb σ B v = up σ B 1 (nI (tV a h lv)) := by
  unfold f_X1_climb tV
  rw [c2]
  by_cases g1 : a ≤ h
  · rw [if_pos (h1.mpr g1), if_pos g1]
    by_cases g2 : h ≤ a
    · rw [if_pos (h2.mpr g2), if_pos g2, up_same c2]
    · rw [if_neg (fun q => g2 (h2.mp q)), if_neg g2, bT_e]
      congr 1
      rcases Nat.eq_zero_or_pos lv with hz | hz
      · subst hz
        decide
      · rw [show nI lv - 1 = nI (lv - 1) from pk_sub (a := lv) (b := 1) hz, if_neg (nI_pos (by omega))]
  · rw [if_neg (fun q => g1 (h1.mp q)), if_neg g1, bT_e, nI_1]
    congr 1
    by_cases g3 : lv = 7
    · subst g3
      decide
    · rw [if_neg (show ¬ (7 : Int32) < nI (lv + 1) from nI_nlt (a := 7) (b := lv + 1) (by omega) (by omega)), show min (lv + 1) 7 = lv + 1 by omega]
theorem vent_s {σ : St} {B g fu : Nat} (hg : g ≤ 500) (hfu : fu ≤ 500) (c5 : σ.1 B 4 = nI g) : f_X1_ventAbove σ B (nI fu) = up (up σ B 6 (if g ≤ fu then σ.1 B 6 else σ.1 B 6 + (nI g - nI fu))) B 4 (nI (min g fu)) := by
  unfold f_X1_ventAbove
  rw [c5]
  by_cases h : g ≤ fu
  · rw [if_pos (nI_le h (by omega)), if_pos h, up_same rfl, show min g fu = g by omega, up_same c5]
  · rw [if_neg (nI_ge (by omega) (by omega)), if_neg h, bT_e, bT_e, show min g fu = fu by omega]
