/-! a tick of a plan, in numbers: cell, level, gas, ballast -/
def tkl (ρ : Nat → Nat → Int32) (d ld t o : Nat) (S : Nat × Nat × Nat × Nat) : Nat := tV (tA ρ o d S.2.1 t S.2.2.1) (tH o d ld S.2.2.2) S.2.1
def tk (σ : St) (d ld t o : Nat) (S : Nat × Nat × Nat × Nat) : Nat × Nat × Nat × Nat := (if tkl σ.1 d ld t o S = 0 then S.1 else (f_X5_movedFrom σ (nI S.1) (σ.1 11 (24 * tkl σ.1 d ld t o S + t % 24)) (σ.1 12 (24 * tkl σ.1 d ld t o S + t % 24))).toNatClampNeg, tkl σ.1 d ld t o S, min (tG o d S.2.2.1) (σ.1 75 (tkl σ.1 d ld t o S)).toNatClampNeg, tB o d S.2.2.2)
def SOk (S : Nat × Nat × Nat × Nat) : Prop := S.1 < 576 ∧ S.2.1 ≤ 7 ∧ S.2.2.1 ≤ 500 ∧ S.2.2.2 ≤ 200
def BaO (σ : St) (B t ld : Nat) (S : Nat × Nat × Nat × Nat) : Prop := σ.1 B 0 = nI S.1 ∧ σ.1 B 1 = nI S.2.1 ∧ σ.1 B 2 = nI t ∧ σ.1 B 3 = nI ld ∧ σ.1 B 4 = nI S.2.2.1 ∧ σ.1 B 5 = nI S.2.2.2 ∧ σ.1 B 7 = (if S.2.1 = 0 then 1 else 0)
def RfO (τ : St) (S : Nat × Nat × Nat × Nat) : Prop := τ.1 72 29 = nI (S.1 % 24) ∧ τ.1 72 30 = nI (S.1 / 24) ∧ τ.1 72 31 = nI S.2.1 ∧ τ.1 72 32 = nI S.2.2.1 ∧ τ.1 72 33 = nI S.2.2.2
theorem mv11 {σ : St} {w h c l a : Nat} (hw : w ≤ 24) (hh : h ≤ 24) (e0 : σ.1 1 0 = nI w) (e1 : σ.1 1 1 = nI h) (m0 : σ.1 72 0 = nI w) (m1 : σ.1 72 1 = nI h) (iN : InvN (σ.1 8) (σ.1 9) (σ.1 11) (σ.1 12) (σ.1 77) (σ.1 78)) (hc : c < 576) (hl : l ≤ 7) (ha : a < 24) : ∃ c' : Nat, c' < 576 ∧ f_X5_movedFrom σ (nI c) (σ.1 11 (24 * l + a)) (σ.1 12 (24 * l + a)) = nI c' := by
  obtain ⟨x', y', hx, hy, -, q2⟩ := led_s (σ := σ) (τ := σ) (x := c % 24) (y := c / 24) (kk := 1) (l := l) (a := a) hw hh e0 e1 m0 m1 (by omega) (by omega) (by omega) hl ha
  have n := iN.1 (24 * l + a) (by omega)
  rw [show 24 * (c / 24) + c % 24 = c by omega, show 192 * 1 + 24 * l + a = 192 + (24 * l + a) by omega, ← n.2.2.1, ← n.2.2.2] at q2
  exact ⟨24 * y' + x', by omega, q2⟩
theorem tA_c {ρ ρ' : Nat → Nat → Int32} {o d lv t g : Nat} (h4 : ρ' 74 = ρ 74) (h6 : ρ' 76 = ρ 76) : tA ρ' o d lv t g = tA ρ o d lv t g := by
  unfold tA
  rw [h4, h6]
theorem tk_ok {σ : St} {w h d ld t o : Nat} {S : Nat × Nat × Nat × Nat} (hw : w ≤ 24) (hh : h ≤ 24) (e0 : σ.1 1 0 = nI w) (e1 : σ.1 1 1 = nI h) (m0 : σ.1 72 0 = nI w) (m1 : σ.1 72 1 = nI h) (iA : InvA (σ.1 4) (σ.1 5) (σ.1 6) (σ.1 74) (σ.1 75) (σ.1 76)) (iN : InvN (σ.1 8) (σ.1 9) (σ.1 11) (σ.1 12) (σ.1 77) (σ.1 78)) (hS : SOk S) : SOk (tk σ d ld t o S) ∧ (if tkl σ.1 d ld t o S = 0 then nI S.1 else f_X5_movedFrom σ (nI S.1) (σ.1 11 (24 * tkl σ.1 d ld t o S + t % 24)) (σ.1 12 (24 * tkl σ.1 d ld t o S + t % 24))) = nI (tk σ d ld t o S).1 ∧ ∃ fu : Nat, fu ≤ 500 ∧ σ.1 75 (tkl σ.1 d ld t o S) = nI fu ∧ (tk σ d ld t o S).2.2.1 = min (tG o d S.2.2.1) fu := by
  obtain ⟨s1, s2, s3, s4⟩ := hS
  have hl : tkl σ.1 d ld t o S ≤ 7 := tV_le s2
  obtain ⟨-, -, -, fu, hfu, efu⟩ := iA.1 (tkl σ.1 d ld t o S) (by omega)
  obtain ⟨c', hc', ec⟩ := mv11 (l := tkl σ.1 d ld t o S) (a := t % 24) hw hh e0 e1 m0 m1 iN s1 hl (Nat.mod_lt _ (by decide))
  have ef : (σ.1 75 (tkl σ.1 d ld t o S)).toNatClampNeg = fu := by rw [efu, nI_clamp (by omega)]
  have t1 := tG_le o d S.2.2.1
  have t2 := tB_le o d S.2.2.2
  unfold SOk tk
  dsimp only
  rw [ef, ec, nI_clamp (by omega)]
  refine ⟨⟨?_, hl, by omega, by omega⟩, ?_, fu, hfu, efu, rfl⟩
  · split
    · exact s1
    · exact hc'
  · split
    · rfl
    · rfl
/-- the class's tick on a plan's balloon -/
theorem tk_9 {σ σ0 : St} {w h B d ld t o : Nat} {S : Nat × Nat × Nat × Nat} (hw : w ≤ 24) (hh : h ≤ 24) (e0 : σ0.1 1 0 = nI w) (e1 : σ0.1 1 1 = nI h) (m0 : σ0.1 72 0 = nI w) (m1 : σ0.1 72 1 = nI h) (iA : InvA (σ0.1 4) (σ0.1 5) (σ0.1 6) (σ0.1 74) (σ0.1 75) (σ0.1 76)) (iN : InvN (σ0.1 8) (σ0.1 9) (σ0.1 11) (σ0.1 12) (σ0.1 77) (σ0.1 78)) (hfr : ∀ r, r ≤ 12 ∨ 73 ≤ r → σ.1 r = σ0.1 r) (hB : 33 ≤ B) (hB2 : B < 72) (ho : o ≤ 2) (hd : d ≤ 50) (hld : ld ≤ 200) (ht : t < 1000) (hS : SOk S) (hl : 1 ≤ S.2.1) (b : BaO σ B t ld S) :
    ∃ s : St, f_X1_pass σ B (nI o) (nI d) 10 = some s ∧ (∀ a, ¬ a = B → s.1 a = σ.1 a) ∧ s.2 = σ.2 ∧ BaO s B (t + 1) ld (tk σ0 d ld t o S) := by
  obtain ⟨s1, s2, s3, s4⟩ := hS
  obtain ⟨k1, k2, fu, hfu, efu, k3⟩ := tk_ok (d := d) (ld := ld) (t := t) (o := o) hw hh e0 e1 m0 m1 iA iN ⟨s1, s2, s3, s4⟩
  obtain ⟨b0, b1, b2, b3, b4, b5, b7⟩ := b
  obtain ⟨s, p1, p2, p3, p4, p5, p6, p7, p8, p9, p10, p11⟩ := pass_s (σ := σ) (B := B) (q := 10) (o := o) (d := d) (c := S.1) (lv := S.2.1) (t := t) (ld := ld) (g := S.2.2.1) (bs := S.2.2.2) (lv' := tkl σ0.1 d ld t o S) (fu := fu) (by rw [hfr 4 (by omega), hfr 5 (by omega), hfr 6 (by omega), hfr 74 (by omega), hfr 75 (by omega), hfr 76 (by omega)]; exact iA) (Or.inr rfl) hB hB2 ho hd s2 ht hld s3 s4 b0 b1 b2 b3 b4 b5 (by rw [tA_c (hfr 74 (by omega)) (hfr 76 (by omega))]; rfl) (by rw [hfr 75 (by omega)]; exact efu) hfu
  refine ⟨s, p1, p2, p3, ?_, p5, p6, p7, ?_, p9, ?_⟩
  · rw [p4, ← k2, show σ.1 (10 + 1) = σ0.1 11 from hfr 11 (by omega), show σ.1 (10 + 2) = σ0.1 12 from hfr 12 (by omega), moved_eq (hfr 1 (by omega))]
  · rw [p8, k3]
  · rw [p11, b7, if_neg (show ¬ S.2.1 = 0 by omega)]
    rfl
/-- the reference's tick on a plan -/
theorem tk_10 {τ σ0 : St} {w h d ld t o : Nat} {S : Nat × Nat × Nat × Nat} (hw : w ≤ 24) (hh : h ≤ 24) (e0 : σ0.1 1 0 = nI w) (e1 : σ0.1 1 1 = nI h) (m0 : σ0.1 72 0 = nI w) (m1 : σ0.1 72 1 = nI h) (iA : InvA (σ0.1 4) (σ0.1 5) (σ0.1 6) (σ0.1 74) (σ0.1 75) (σ0.1 76)) (iN : InvN (σ0.1 8) (σ0.1 9) (σ0.1 11) (σ0.1 12) (σ0.1 77) (σ0.1 78)) (hfr : ∀ r, 73 ≤ r ∧ r ≤ 95 → τ.1 r = σ0.1 r) (n0 : τ.1 72 0 = nI w) (n1 : τ.1 72 1 = nI h) (ho : o ≤ 2) (hd : d ≤ 50) (hS : SOk S) (hl : 1 ≤ S.2.1) (b : RfO τ S) :
    ∃ s : St, f_X10_tick τ 1 (nI (t % 24)) (nI ld) (nI o) (nI d) = some s ∧ (∀ a, ¬ a = 72 → s.1 a = τ.1 a) ∧ s.2 = τ.2 ∧ (∀ j, j < 29 ∨ 34 < j → s.1 72 j = τ.1 72 j) ∧ RfO s (tk σ0 d ld t o S) := by
  obtain ⟨s1, s2, s3, s4⟩ := hS
  obtain ⟨k1, k2, fu, hfu, efu, k3⟩ := tk_ok (d := d) (ld := ld) (t := t) (o := o) hw hh e0 e1 m0 m1 iA iN ⟨s1, s2, s3, s4⟩
  obtain ⟨b0, b1, b2, b3, b4⟩ := b
  obtain ⟨s, x', y', p1, p2, p3, p4, hx', hy', p5, p6, p7, p8, p9, p10, p11⟩ := tick_s (σ := σ0) (τ := τ) (w := w) (h := h) (kk := 1) (o := o) (d := d) (x := S.1 % 24) (y := S.1 / 24) (lv := S.2.1) (t := t) (ld := ld) (g := S.2.2.1) (bs := S.2.2.2) (lv' := tkl σ0.1 d ld t o S) (fu := fu) hw hh e0 e1 n0 n1 (by omega) ho hd (by omega) (by omega) hl s2 s3 s4 b0 b1 b2 b3 b4 (by rw [tA_c (hfr 74 (by omega)) (hfr 76 (by omega))]; rfl) (by rw [hfr 75 (by omega)]; exact efu) hfu
  have hl7 : tkl σ0.1 d ld t o S ≤ 7 := tV_le s2
  have n := iN.1 (24 * tkl σ0.1 d ld t o S + t % 24) (by omega)
  rw [show 24 * (S.1 / 24) + S.1 % 24 = S.1 by omega, show 192 * 1 + 24 * tkl σ0.1 d ld t o S + t % 24 = 192 + (24 * tkl σ0.1 d ld t o S + t % 24) by omega, hfr 77 (by omega), hfr 78 (by omega), ← n.2.2.1, ← n.2.2.2, k2] at p11
  have ec : (tk σ0 d ld t o S).1 = 24 * y' + x' := (nI_eq (by have := k1.1; omega) (by omega)).mp p11
  refine ⟨s, p1, p2, p3, p4, ?_, ?_, p7, ?_, p9⟩
  · rw [p5, ec]; congr 1; omega
  · rw [p6, ec]; congr 1; omega
  · rw [p8, k3]
