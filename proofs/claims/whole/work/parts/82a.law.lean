/-! THE CLAIM OUT OF ONE WALK OF THE LAW'S BODY. Your part is whole_start (and what it stands on); all else here is the same for every law, but numbers. -/
def R_law : String := "GasVoyagesLaw"
def lw_P (b : Addr) (xs : List Int32) (args : Array Value) (s : State) : Prop := args = #[.ref b] ∧ s.IntsAt b xs ∧ xs.length ≤ 3584 ∧ (Jvm.Cond.and given_1 narrow_1).before args s = true
def lw_Q (_ : Array Value) (s : State) (o : Outcome) (t : State) : Prop := o = .returned (some (.int 1)) ∧ Framed s o t [] 600000 7302250
def lw_Z (below : List Frame) (a : Array Value) (s : State) : State → Prop := fun t => ∃ o, t.status = .running ∧ Ended t below o ∧ lw_Q a s o t
/-- the law's own end, with 1 on the stack, nothing written that was there before, its room as the claim has it -/
theorem lw_ret {p : Program} {l : Launch} {e : Env} {s : State} {m : MethodId} {below : List Frame} {meth : Method} {c : Code} {b : Nat} (hx : p.tables.exec = Jvm.exec) (hb : c.code = code) (hr : meth.sig.returnType = ret) (hlocks : meth.locks = false) {pc : Nat} {H : Heap} {ls : Array Slot} (hdg : decode code pc = .ok (.ireturn, 1)) : W p l e room_1 s m #[Value.ref b] below meth c H [] 600000 7302250 (lw_Z below #[Value.ref b] s) (F0 m pc ls [.int 1]) := by
  intro T hT X
  obtain ⟨fs, hret, hrun, hended, hW, hframe⟩ := X.leave (v := some (.int 1)) (hlocks := hlocks) (fun h => by rw [hr] at h; cases h)
  have hmeth' : T.vm.method? m = some meth := X.method'
  refine ⟨T.setFrames fs, ?_, .returned (some (.int 1)), hrun, hended, rfl, ⟨_, rfl⟩, hW, hframe⟩
  jvm_step X.here [X.here.top, hx, hb, hdg, hmeth', hr, ret, narrow_b1]
  (try refine ⟨rfl, ?_⟩); (try refine ⟨rfl, ?_⟩)
  first | (intro acts; rw [hret _ acts rfl rfl rfl]) | rw [hret _ _ rfl rfl rfl]
  exact Steps.refl _
/-- what holds at the law's entry: the machine, the code, the tables' words (any of lw_tbl by 'hts w (by decide +kernel)'), the script of L ints xs at the cell b, what the Statement gives of the start (any of its parts by flat_of_before) -/
def lw_At (p : Program) (s : State) (m : MethodId) (meth : Method) (c : Code) (b L : Nat) (xs : Nat → Int32) : Prop :=
  p.tables.exec = Jvm.exec ∧ c.code = code ∧ meth.sig.returnType = ret ∧ c.maxLocals = 4 ∧ s.vm.findClass R_law = some m.cls ∧ (∀ w ∈ lw_tbl, w.before #[Value.ref b] s = true) ∧ va_X b L xs s s.heap ∧ b < s.heap.size ∧ meth.locks = false ∧ (Jvm.Cond.and given_1 narrow_1).before #[Value.ref b] s = true
def aw (s : State) : Nat → Prop := fun q : Nat => s.heap.size ≤ q
theorem lg_self (r : Int64) : lg_cmp r r = 0 := by simp [lg_cmp]
theorem scr_in {i L k : Nat} (hi : i + 7 ≤ L) (hL : L ≤ 3584) (hk : k ≤ 6) : vp_in (nI i + nI k) L := by
  rw [nI_add]
  exact vp_in_nI (by omega) (by omega)
theorem scr_go {i L : Nat} (hL : L ≤ 3584) (hi : i ≤ 4000) (h : ¬ nI L - 7 < nI i) : i + 7 ≤ L := by
  have h1 : (nI L - 7).toInt = (L : Int) - 7 := pk_sub_toInt (a := L) (b := 7) (by omega) (by omega)
  have h2 : (nI i).toInt = (i : Int) := nI_toInt (by omega)
  rw [Int32.lt_iff_toInt_lt, h1, h2] at h
  omega
theorem sw22_out {x : Int32} (h0 : ¬ x = 0) (h1 : ¬ x = 1) (h2 : ¬ x = 2) (h3 : ¬ x = 3) (h4 : ¬ x = 4) (h5 : ¬ x = 5) (h6 : ¬ x = 6) (h7 : ¬ x = 7) (h8 : ¬ x = 8) (h9 : ¬ x = 9) (h10 : ¬ x = 10) (h11 : ¬ x = 11) (h12 : ¬ x = 12) (h13 : ¬ x = 13) (h14 : ¬ x = 14) (h15 : ¬ x = 15) (h16 : ¬ x = 16) (h17 : ¬ x = 17) (h18 : ¬ x = 18) (h19 : ¬ x = 19) (h20 : ¬ x = 20) (h21 : ¬ x = 21) : x.toInt < 0 ∨ 21 < x.toInt := by
  have g0 := lv_neT (a := 0) h0 (by decide)
  have g1 := lv_neT (a := 1) h1 (by decide)
  have g2 := lv_neT (a := 2) h2 (by decide)
  have g3 := lv_neT (a := 3) h3 (by decide)
  have g4 := lv_neT (a := 4) h4 (by decide)
  have g5 := lv_neT (a := 5) h5 (by decide)
  have g6 := lv_neT (a := 6) h6 (by decide)
  have g7 := lv_neT (a := 7) h7 (by decide)
  have g8 := lv_neT (a := 8) h8 (by decide)
  have g9 := lv_neT (a := 9) h9 (by decide)
  have g10 := lv_neT (a := 10) h10 (by decide)
  have g11 := lv_neT (a := 11) h11 (by decide)
  have g12 := lv_neT (a := 12) h12 (by decide)
  have g13 := lv_neT (a := 13) h13 (by decide)
  have g14 := lv_neT (a := 14) h14 (by decide)
  have g15 := lv_neT (a := 15) h15 (by decide)
  have g16 := lv_neT (a := 16) h16 (by decide)
  have g17 := lv_neT (a := 17) h17 (by decide)
  have g18 := lv_neT (a := 18) h18 (by decide)
  have g19 := lv_neT (a := 19) h19 (by decide)
  have g20 := lv_neT (a := 20) h20 (by decide)
  have g21 := lv_neT (a := 21) h21 (by decide)
  omega
def MS_land (Inv : St → Prop) : Prop := ∀ (σ : St), Inv σ → ∀ (p1 : Int32) (p2 : Int32), ∃ (r : Int32) (s1 : St) (s2 : St), f_X9_land σ p1 p2 = some (r, s1) ∧ f_X10_land s1 p1 p2 = some (r, s2) ∧ Inv s2
def MS_cell (Inv : St → Prop) : Prop := ∀ (σ : St), Inv σ → ∀ (p1 : Int32) (p2 : Int32) (p3 : Int32), ∃ (r : Int32) (s1 : St) (s2 : St), f_X9_cell σ p1 p2 p3 = some (r, s1) ∧ f_X10_cell s1 p1 p2 p3 = some (r, s2) ∧ Inv s2
def MS_level (Inv : St → Prop) : Prop := ∀ (σ : St), Inv σ → ∀ (p1 : Int32) (p2 : Int32) (p3 : Int32), ∃ (r : Int32) (s1 : St) (s2 : St), f_X9_level σ p1 p2 p3 = some (r, s1) ∧ f_X10_level s1 p1 p2 p3 = some (r, s2) ∧ Inv s2
def MS_warmth (Inv : St → Prop) : Prop := ∀ (σ : St), Inv σ → ∀ (p1 : Int32) (p2 : Int32), ∃ (r : Int32) (s1 : St) (s2 : St), f_X9_warmth σ p1 p2 = some (r, s1) ∧ f_X10_warmth s1 p1 p2 = some (r, s2) ∧ Inv s2
def MS_wind (Inv : St → Prop) : Prop := ∀ (σ : St), Inv σ → ∀ (p1 : Int32) (p2 : Int32) (p3 : Int32) (p4 : Int32) (p5 : Int32) (p6 : Int32), ∃ (r : Int32) (s1 : St) (s2 : St), f_X9_wind σ p1 p2 p3 p4 p5 p6 = some (r, s1) ∧ f_X10_wind s1 p1 p2 p3 p4 p5 p6 = some (r, s2) ∧ Inv s2
def MS_fly (Inv : St → Prop) : Prop := ∀ (σ : St), Inv σ → ∀ (p1 : Int32) (p2 : Int32) (p3 : Int32) (p4 : Int32) (p5 : Int32) (p6 : Int32), ∃ (r : Int32) (s1 : St) (s2 : St), f_X9_fly σ p1 p2 p3 p4 p5 p6 = some (r, s1) ∧ f_X10_fly s1 p1 p2 p3 p4 p5 p6 = some (r, s2) ∧ Inv s2
def MS_go (Inv : St → Prop) : Prop := ∀ (σ : St), Inv σ → ∀ (p1 : Int32) (p2 : Int32) (p3 : Int32) (p4 : Int32), ∃ (r : Int32) (s1 : St) (s2 : St), f_X9_go σ p1 p2 p3 p4 = some (r, s1) ∧ f_X10_go s1 p1 p2 p3 p4 = some (r, s2) ∧ Inv s2
def MS_about (Inv : St → Prop) : Prop := ∀ (σ : St), Inv σ → ∀ (p1 : Int32) (p2 : Int32), ∃ (r : Int32), f_X9_about σ p1 p2 = some r ∧ f_X10_about σ p1 p2 = some r ∧ Inv σ
def MS_distance (Inv : St → Prop) : Prop := ∀ (σ : St), Inv σ → ∀ (p1 : Int32), ∃ (r : Int32), f_X9_distance σ p1 = some r ∧ f_X10_distance σ p1 = some r ∧ Inv σ
def MS_plan (Inv : St → Prop) : Prop := ∀ (σ : St), Inv σ → ∀ (p1 : Int32) (p2 : Int32) (p3 : Int32) (p4 : Int32) (p5 : Int32), ∃ (r : Int32) (s1 : St) (s2 : St), f_X9_plan σ p1 p2 p3 p4 p5 = some (r, s1) ∧ f_X10_plan s1 p1 p2 p3 p4 p5 = some (r, s2) ∧ Inv s2
def MS_away (Inv : St → Prop) : Prop := ∀ (σ : St), Inv σ → ∀ (p1 : Int32) (p2 : Int32) (p3 : Int32), ∃ (r : Int32) (s1 : St) (s2 : St), f_X9_away σ p1 p2 p3 = some (r, s1) ∧ f_X10_away s1 p1 p2 p3 = some (r, s2) ∧ Inv s2
def MS_order (Inv : St → Prop) : Prop := ∀ (σ : St), Inv σ → ∀ (p1 : Int32), ∃ (r : Int32), f_X9_order σ p1 = some r ∧ f_X10_order σ p1 = some r ∧ Inv σ
def MS_entry (Inv : St → Prop) : Prop := ∀ (σ : St), Inv σ → ∀ (p1 : Int32) (p2 : Int32) (p3 : Int32), ∃ (r : Int32), f_X9_entry σ p1 p2 p3 = some r ∧ f_X10_entry σ p1 p2 p3 = some r ∧ Inv σ
def MS_lose (Inv : St → Prop) : Prop := ∀ (σ : St), Inv σ → ∀ (p1 : Int32) (p2 : Int32) (p3 : Int32), ∃ (r : Int32) (s1 : St) (s2 : St), f_X9_lose σ p1 p2 p3 = some (r, s1) ∧ f_X10_lose s1 p1 p2 p3 = some (r, s2) ∧ Inv s2
def MS_judge (Inv : St → Prop) : Prop := ∀ (σ : St), Inv σ → ∀ (p1 : Int32), ∃ (r : Int32) (s1 : St) (s2 : St), f_X9_judge σ p1 = some (r, s1) ∧ f_X10_judge s1 p1 = some (r, s2) ∧ Inv s2
def MS_ways (Inv : St → Prop) : Prop := ∀ (σ : St), Inv σ → ∀ (p1 : Int32) (p2 : Int32), ∃ (r : Int32) (s1 : St) (s2 : St), f_X9_ways σ p1 p2 = some (r, s1) ∧ f_X10_ways s1 p1 p2 = some (r, s2) ∧ Inv s2
def MS_chaser (Inv : St → Prop) : Prop := ∀ (σ : St), Inv σ → ∀ (p1 : Int32) (p2 : Int32) (p3 : Int32), ∃ (r : Int32) (s1 : St) (s2 : St), f_X9_chaser σ p1 p2 p3 = some (r, s1) ∧ f_X10_chaser s1 p1 p2 p3 = some (r, s2) ∧ Inv s2
def MS_chase (Inv : St → Prop) : Prop := ∀ (σ : St), Inv σ → ∀ (p1 : Int32) (p2 : Int32) (p3 : Int32), ∃ (r : Int32) (s1 : St) (s2 : St), f_X9_chase σ p1 p2 p3 = some (r, s1) ∧ f_X10_chase s1 p1 p2 p3 = some (r, s2) ∧ Inv s2
def MS_first (Inv : St → Prop) : Prop := ∀ (σ : St), Inv σ → ∀ (p1 : Int32), ∃ (r : Int32) (s1 : St) (s2 : St), f_X9_first σ p1 = some (r, s1) ∧ f_X10_first s1 p1 = some (r, s2) ∧ Inv s2
def MS_record (Inv : St → Prop) : Prop := ∀ (σ : St), Inv σ → ∀ (p1 : Int32), ∃ (r : Int32) (s1 : St) (s2 : St), f_X9_record σ p1 = some (r, s1) ∧ f_X10_record s1 p1 = some (r, s2) ∧ Inv s2
def MS_count (Inv : St → Prop) : Prop := ∀ (σ : St), Inv σ → ∀ (p1 : Int32), ∃ (r : Int32), f_X9_count σ p1 = some r ∧ f_X10_count σ p1 = some r ∧ Inv σ
def MS_digest (Inv : St → Prop) : Prop := ∀ (σ : St), Inv σ → ∃ (r : Int64), f_X9_digest σ  = some r ∧ f_X10_digest σ  = some r ∧ Inv σ
