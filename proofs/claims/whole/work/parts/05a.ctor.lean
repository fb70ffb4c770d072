/-! CONSTRUCTORS: their worlds are lists of cells at addresses that are variables -/
abbrev tyc (cy : Nat → ClassId) : List (ClassId × FieldType) := [(cy 0, .int), (cy 1, .boolean), (cy 2, .object RX3), (cy 3, .object RX1)]
def Cn (D : va_G) (cy : Nat → ClassId) (U : State) : Prop := va_K D vwCl (tyc cy) U ∧ Nst U ∧ va_AO RX3 U ∧ va_AO RX1 U
def Pn (D : va_G) (cy : Nat → ClassId) (sz : Nat) (W0 : va_W) (U : State) : Prop := U.heap.size = sz ∧ va_P D vwCl W0 U.heap ∧ Cn D cy U ∧ va_D (fun _ => True) W0
def Bn (D : va_G) (A : Nat → Prop) (w1 : (Nat → Nat) → va_W) (u : Nat → Nat) (t : State) : Prop := va_P D vwCl (w1 u) t.heap ∧ va_D A (w1 u)
def rmn (d mc ms : Nat) : Room := { frames := d, cells := mc, slots := ms, locals := 64 * d }
def Kn (l : Launch) (y : MethodName) (ws : List Cond) (d mc ms : Nat) (D : va_G) (cy : Nat → ClassId) (sz : Nat) (W0 : va_W) (w1 : (Nat → Nat) → va_W) (av : List Value) : Prop := Met l y ws (rmn d mc ms) (va_Pc av (Pn D cy sz W0)) (va_Qv (fun _ : Nat → Nat => True) (Bn D (va_A W0 sz) w1) (va_A W0 sz)) mc ms (va_A W0 sz)
theorem Cn.go {D : va_G} {cy : Nat → ClassId} {s U : State} (h : Cn D cy s) (hW : s.WarmedH U.vm) : Cn D cy U := ⟨h.1.moved hW.alike, h.2.1.go hW, va_AO.moved hW.alike h.2.2.1, va_AO.moved hW.alike h.2.2.2⟩
theorem Pn_blind (D : va_G) (cy : Nat → ClassId) (sz : Nat) (W0 : va_W) (av : List Value) : FrameBlind (va_Pc av (Pn D cy sz W0)) := by
  intro a U g mk h
  obtain ⟨h0, h1, h2, ⟨h3, h4, h5, h6⟩, h7⟩ := h
  have hA : U.vm.Alike (U.calling g mk a).vm := Vm.Alike.refl U.vm
  exact ⟨h0, h1, h2, ⟨va_K.moved hA h3, Nst.same (s := U) rfl h4, va_AO.moved hA h5, va_AO.moved hA h6⟩, h7⟩
abbrev Qn (below : List Frame) (args : Array Value) (s : State) (D : va_G) (A : Nat → Prop) (w1 : (Nat → Nat) → va_W) (mc ms : Nat) : State → Prop := MQ below (va_Qv (fun _ : Nat → Nat => True) (Bn D A w1) A) args s mc ms A
section RN
variable {p : Program} {l : Launch} {e : Env} {R : Room} {s : State} {m : MethodId} {args : Array Value} {below : List Frame} {meth : Method} {c : Code} {H : Heap} {locs : List Loc} {cells slots : Nat} {Q : State → Prop}
variable {cc : ByteArray} {nL pc : Nat} {ls : Array Slot} {rest st0 : List Value} {Ts : List Cond} {own : String} {D : va_G} {cy : Nat → ClassId} {A : Nat → Prop} {ws wc wr W0 : va_W} {w1 : (Nat → Nat) → va_W} {mc ms sz : Nat}
theorem r_nstart {y : MethodName} {wsy ws' : List Cond} {maxL d : Nat} (hy : plainName y.cls = true) (hw : wsy = Cond.code y cc maxL none :: ws') (hyn : y.name = "<init>") (av : List Value) (hav : (lg_sl av).length ≤ maxL)
    (body : ∀ (p : Program) (e : Env) (s : State) (m : MethodId) (below : List Frame) (meth : Method) (c : Code) (A : Nat → Prop), CallFix p m c cc maxL s av.toArray wsy y.cls → meth.sig.returnType = none → meth.locks = false → meth.name = "<init>" → Cn D cy s → (∀ q : Nat, s.heap.size ≤ q → A q) → va_P D vwCl W0 s.heap → va_D A W0 → ∀ ls : Array Slot, lv_has ls maxL (lv_args 0 av) → W p l e (rmn d mc ms) s m av.toArray below meth c s.heap [] 0 0 (Qn below av.toArray s D A w1 mc ms) (F0 m 0 ls [])) : Kn l y wsy d mc ms D cy sz W0 w1 av := by
  refine Met.ofW (cc := cc) (maxL := maxL) (ret := none) hy hw ?_
  intro p e s m args below meth c s₁ B hml hv
  obtain ⟨rfl, hsz, hP, hC, hD⟩ := hv
  subst hsz
  have hts := atoms_spec (ws := wsy) B.pre
  have hown : s.vm.findClass y.cls = some m.cls := findClass_of_methodNamed B.named
  have hl := lv_entry av (n := maxL) hav
  rw [lg_entry_eq]
  exact body p e s m below meth c (va_A W0 s.heap.size) ⟨B.exec, B.bytes, hml, hown, hts⟩ B.returns B.notSynchronized ((name_of_methodNamed B.named B.method).1.trans hyn) hC (fun q h => Or.inr h) hP hD.self _ hl
theorem r_newi {T : va_W} (hexec : p.tables.exec = Jvm.exec) (hb : c.code = cc) (harr : (Cond.arrayClass .int).before args s = true) (hC : Cn D cy s) (hP : va_P D vwCl ws H) (hD : va_D A ws) (hS : va_S A s.heap H locs) (hA : ∀ q : Nat, s.heap.size ≤ q → A q)
    {n : Int32} {N' : Nat} (hn : ¬ n < 0) (hN : n.toNatClampNeg = N') (hbytes : N' * 4 ≤ 536870912) (hcells : cells + 1 ≤ R.cells) (hslots : slots + N' ≤ R.slots) (hdg : decode cc pc = .ok (.newarray .int, 2))
    (kk : ∀ (q : Nat) (H1 : Heap), va_P D vwCl (ws ++ [(q, .inl (cy 0, N', .inl (fun _ => 0)))]) H1 → va_D A (ws ++ [(q, .inl (cy 0, N', .inl (fun _ => 0)))]) → va_S A s.heap H1 locs →
      W p l e R s m args below meth c H1 locs (cells + 1) (slots + N') Q (F0 m (pc + 2) ls (.ref q :: rest))) : W p l e R s m args below meth c H locs cells slots Q (F0 m pc ls (.int n :: rest)) := by
  refine va_newa (atype := .int) (ty := .int) hexec hb harr rfl hC.1 hP hD hS hA (a0 := (N', .inl (fun _ => 0))) (fun cA => rfl) hn hN hbytes hcells hslots hdg (fun q cA H1 hK hP hD hS => ?_)
  have h1 : s.vm.findClass ("[" ++ (FieldType.int).toString) = some cA := (hK.2 4 (cA, .int) rfl).2
  have h2 : s.vm.findClass ("[" ++ (FieldType.int).toString) = some (cy 0) := (hC.1.2 0 (cy 0, .int) rfl).2
  cases h1.symm.trans h2
  exact kk q H1 hP hD hS
theorem r_newz {T : va_W} (hexec : p.tables.exec = Jvm.exec) (hb : c.code = cc) (harr : (Cond.arrayClass .boolean).before args s = true) (hC : Cn D cy s) (hP : va_P D vwCl ws H) (hD : va_D A ws) (hS : va_S A s.heap H locs) (hA : ∀ q : Nat, s.heap.size ≤ q → A q)
    {n : Int32} {N' : Nat} (hn : ¬ n < 0) (hN : n.toNatClampNeg = N') (hbytes : N' * 1 ≤ 536870912) (hcells : cells + 1 ≤ R.cells) (hslots : slots + N' ≤ R.slots) (hdg : decode cc pc = .ok (.newarray .boolean, 2))
    (kk : ∀ (q : Nat) (H1 : Heap), va_P D vwCl (ws ++ [(q, .inl (cy 1, N', .inl (fun _ => 0)))]) H1 → va_D A (ws ++ [(q, .inl (cy 1, N', .inl (fun _ => 0)))]) → va_S A s.heap H1 locs →
      W p l e R s m args below meth c H1 locs (cells + 1) (slots + N') Q (F0 m (pc + 2) ls (.ref q :: rest))) : W p l e R s m args below meth c H locs cells slots Q (F0 m pc ls (.int n :: rest)) := by
  refine va_newa (atype := .boolean) (ty := .boolean) hexec hb harr rfl hC.1 hP hD hS hA (a0 := (N', .inl (fun _ => 0))) (fun cA => rfl) hn hN hbytes hcells hslots hdg (fun q cA H1 hK hP hD hS => ?_)
  have h1 : s.vm.findClass ("[" ++ (FieldType.boolean).toString) = some cA := (hK.2 4 (cA, .boolean) rfl).2
  have h2 : s.vm.findClass ("[" ++ (FieldType.boolean).toString) = some (cy 1) := (hC.1.2 1 (cy 1, .boolean) rfl).2
  cases h1.symm.trans h2
  exact kk q H1 hP hD hS
theorem r_newF (hexec : p.tables.exec = Jvm.exec) (hb : c.code = cc) {index : Nat} (hown : s.vm.findClass own = some m.cls) (hclink : (Cond.classLink own index RX3).before args s = true) (hC : Cn D cy s) (hP : va_P D vwCl ws H) (hD : va_D A ws) (hS : va_S A s.heap H locs) (hA : ∀ q : Nat, s.heap.size ≤ q → A q)
    {n : Int32} {N' : Nat} (hn : ¬ n < 0) (hN : n.toNatClampNeg = N') (hbytes : N' * 4 ≤ 536870912) (hcells : cells + 1 ≤ R.cells) (hslots : slots + N' ≤ R.slots) (hdg : decode cc pc = .ok (.anewarray index, 3))
    (kk : ∀ (q : Nat) (H1 : Heap), va_P D vwCl (ws ++ [(q, .inl (cy 2, N', .inr (.inr (.inr (.inr (fun _ => none))))))]) H1 → va_D A (ws ++ [(q, .inl (cy 2, N', .inr (.inr (.inr (.inr (fun _ => none))))))]) → va_S A s.heap H1 locs →
      W p l e R s m args below meth c H1 locs (cells + 1) (slots + N') Q (F0 m (pc + 3) ls (.ref q :: rest))) : W p l e R s m args below meth c H locs cells slots Q (F0 m pc ls (.int n :: rest)) := by
  refine va_newq hexec hb hown hclink hC.2.2.1 hC.1 hP hD hS hA hn hN hbytes hcells hslots hdg (fun q cA H1 hK hP hD hS => ?_)
  obtain ⟨kA, comp, a1, a2, a3, h1⟩ := (hK.2 4 (cA, .object RX3) rfl).2
  obtain ⟨kB, comp2, b1, b2, b3, h2⟩ := (hC.1.2 2 (cy 2, .object RX3) rfl).2
  cases h1.symm.trans h2
  exact kk q H1 hP hD hS
theorem r_newB (hexec : p.tables.exec = Jvm.exec) (hb : c.code = cc) {index : Nat} (hown : s.vm.findClass own = some m.cls) (hclink : (Cond.classLink own index RX1).before args s = true) (hC : Cn D cy s) (hP : va_P D vwCl ws H) (hD : va_D A ws) (hS : va_S A s.heap H locs) (hA : ∀ q : Nat, s.heap.size ≤ q → A q)
    {n : Int32} {N' : Nat} (hn : ¬ n < 0) (hN : n.toNatClampNeg = N') (hbytes : N' * 4 ≤ 536870912) (hcells : cells + 1 ≤ R.cells) (hslots : slots + N' ≤ R.slots) (hdg : decode cc pc = .ok (.anewarray index, 3))
    (kk : ∀ (q : Nat) (H1 : Heap), va_P D vwCl (ws ++ [(q, .inl (cy 3, N', .inr (.inr (.inr (.inr (fun _ => none))))))]) H1 → va_D A (ws ++ [(q, .inl (cy 3, N', .inr (.inr (.inr (.inr (fun _ => none))))))]) → va_S A s.heap H1 locs →
      W p l e R s m args below meth c H1 locs (cells + 1) (slots + N') Q (F0 m (pc + 3) ls (.ref q :: rest))) : W p l e R s m args below meth c H locs cells slots Q (F0 m pc ls (.int n :: rest)) := by
  refine va_newq hexec hb hown hclink hC.2.2.2 hC.1 hP hD hS hA hn hN hbytes hcells hslots hdg (fun q cA H1 hK hP hD hS => ?_)
  obtain ⟨kA, comp, a1, a2, a3, h1⟩ := (hK.2 4 (cA, .object RX1) rfl).2
  obtain ⟨kB, comp2, b1, b2, b3, h2⟩ := (hC.1.2 3 (cy 3, .object RX1) rfl).2
  cases h1.symm.trans h2
  exact kk q H1 hP hD hS
theorem r_nret (S : CallFix p m c cc nL s args Ts own) (hr : meth.sig.returnType = none) (hlocks : meth.locks = false) (u : Nat → Nat) (hP : va_P D vwCl (w1 u) H) (hD : va_D A (w1 u)) (hS : va_S A s.heap H locs) (hdg : decode cc pc = .ok (.return_, 1)) : W p l e R s m args below meth c H locs mc ms (Qn below args s D A w1 mc ms) (F0 m pc ls []) := by
  obtain ⟨hx, hb, hml, hown, hts⟩ := S
  exact W.vret hx hb hr (fun t ht hW => ⟨⟨u, rfl, trivial, by rw [ht]; exact hP, hD⟩, hS.F ht⟩) hS.2.2 hdg hlocks
variable {d n index maxL : Nat} {y : MethodName} {wsy : List Cond} {bytes : ByteArray} {As : List Value} {b : Addr} {host : String} {a : Array Value}
theorem Cn.pre {U : State} {av : List Value} (hC : Cn D cy s) (hP : va_P D vwCl ws H) (hD : va_D A ws) (isC : List Nat) (h1 : isC.filterMap (fun i => ws[i]?) = wc) (h2 : isC.map (fun i => ws[i]?) = wc.map some) (h3 : va_nd isC = true) (hU : U.heap = H) (hW : s.WarmedH U.vm) : va_Pc av (Pn D cy H.size wc) av.toArray U := ⟨rfl, by rw [hU], by rw [hU]; exact hP.sub isC h1, hC.go hW, (hD.sub isC h3 h2).weaken (fun _ _ _ _ => trivial)⟩
theorem r_nrunI (S : CallFix p m c cc nL s args Ts own) (hC : Cn D cy s) (hM : Kn l y wsy d mc ms D cy H.size wc w1 (.ref b :: As)) (cw : CallB R s args own index y bytes maxL none wsy (rmn d mc ms) mc ms n ∧ y.name = "<init>" ∧ (Cond.instanceMethod y).before args s = true) (hP : va_P D vwCl ws H) (hD : va_D A ws) (isC : List Nat) (h1 : isC.filterMap (fun i => ws[i]?) = wc) (h2 : isC.map (fun i => ws[i]?) = wc.map some) (h3 : va_nd isC = true) (hn : As.length = n) (hsz : ls.size = nL) (hst : st0 = As.reverse ++ .ref b :: rest) (hrm : (rest.map fun v => v.category).sum ≤ 8) (hf : cells + mc ≤ R.cells ∧ slots + ms ≤ R.slots) (hdg : decode cc pc = .ok (.invokespecial index, 3)) :
    va_Run p l e R s m args below meth c H locs cells slots mc ms (F0 m pc ls st0) rest (va_Qv (fun _ : Nat → Nat => True) (Bn D (va_A wc H.size) w1) (va_A wc H.size) (Value.ref b :: As).toArray) (va_A wc H.size) :=
  va_runI S hM cw ⟨Pn_blind D cy _ _ _, fun U hU hW => hC.pre hP hD isC h1 h2 h3 hU hW⟩ rfl hn hsz hst (lv_room hrm) hdg hf
theorem r_nrunN (S : CallFix p m c cc nL s args Ts own) (hC : Cn D cy s) (hM : Kn l y wsy d mc ms D cy H.size wc w1 (.ref b :: As)) (cw : va_CN R s args own index y host bytes maxL none wsy (rmn d mc ms) mc ms n) (hyn : y.name = "<init>") (hin : (Cond.instanceMethod y).before args s = true) (hP : va_P D vwCl ws H) (hD : va_D A ws) (isC : List Nat) (h1 : isC.filterMap (fun i => ws[i]?) = wc) (h2 : isC.map (fun i => ws[i]?) = wc.map some) (h3 : va_nd isC = true) (hn : As.length = n) (hsz : ls.size = nL) (hst : st0 = As.reverse ++ .ref b :: rest) (hrm : (rest.map fun v => v.category).sum ≤ 8) (hf : cells + mc ≤ R.cells ∧ slots + ms ≤ R.slots) (hdg : decode cc pc = .ok (.invokespecial index, 3)) :
    va_Run p l e R s m args below meth c H locs cells slots mc ms (F0 m pc ls st0) rest (va_Qv (fun _ : Nat → Nat => True) (Bn D (va_A wc H.size) w1) (va_A wc H.size) (Value.ref b :: As).toArray) (va_A wc H.size) :=
  va_runIN S hM ⟨cw, hyn, hin⟩ ⟨Pn_blind D cy _ _ _, fun U hU hW => hC.pre hP hD isC h1 h2 h3 hU hW⟩ rfl hn hsz hst (lv_room hrm) hdg hf
theorem r_ncall (run : va_Run p l e R s m args below meth c H locs cells slots mc ms (F0 m pc ls st0) rest (va_Qv (fun _ : Nat → Nat => True) (Bn D (va_A wc H.size) w1) (va_A wc H.size) a) (va_A wc H.size)) (hP : va_P D vwCl ws H) (hD : va_D A ws) (hS : va_S A s.heap H locs) (hA : ∀ q : Nat, s.heap.size ≤ q → A q) (isC isR : List Nat) (hC : isC.map (fun i => ws[i]?) = wc.map some) (hR : isR.map (fun i => ws[i]?) = wr.map some) (hn : va_nd isR = true) (hdis : ∀ i ∈ isR, i ∉ isC)
    (kk : ∀ (u : Nat → Nat) (H1 : Heap) (locs1 : List Loc), va_P D vwCl (wr ++ w1 u) H1 → va_D A (wr ++ w1 u) → va_S A s.heap H1 locs1 → W p l e R s m args below meth c H1 locs1 (cells + mc) (slots + ms) Q (F0 m (pc + 3) ls rest)) : W p l e R s m args below meth c H locs cells slots Q (F0 m pc ls st0) := by
  have hFc := va_free hD hS hA isC hC
  refine va_callv run hS (fun q _ h => hFc q h) hFc (fun u t H1 locs1 ht hvm hw hB hz hk hS1 => ?_)
  obtain ⟨hP1, hD1⟩ := hB
  rw [ht] at hP1
  obtain ⟨hP2, hD2⟩ := va_join hP hD isC isR hC hR hn hdis hk hFc hP1 hD1
  exact kk u H1 locs1 hP2 hD2 hS1
end RN
theorem df_X0 : ∀ j, j < 5 → defaultValue (tyX0 j) = vp_V [.null, .null, .null, .null, .null] j := by decide +kernel
theorem df_X1 : ∀ j, j < 8 → defaultValue (tyX1 j) = vp_V [.int 0, .int 0, .int 0, .int 0, .int 0, .int 0, .int 0, .int 0] j := by decide +kernel
theorem df_X2 : ∀ j, j < 6 → defaultValue (tyX2 j) = vp_V [.null, .null, .null, .int 0, .null, .null] j := by decide +kernel
theorem df_X3 : ∀ j, j < 7 → defaultValue (tyX3 j) = vp_V [.null, .null, .null, .int 0, .int 0, .int 0, .int 0] j := by decide +kernel
theorem df_X4 : ∀ j, j < 4 → defaultValue (tyX4 j) = vp_V [.null, .null, .null, .int 0] j := by decide +kernel
theorem df_X5 : ∀ j, j < 3 → defaultValue (tyX5 j) = vp_V [.int 0, .int 0, .null] j := by decide +kernel
theorem df_X6 : ∀ j, j < 11 → defaultValue (tyX6 j) = vp_V [.null, .null, .null, .null, .null, .int 0, .int 0, .int 0, .int 0, .int 0, .int 0] j := by decide +kernel
theorem df_X7 : ∀ j, j < 6 → defaultValue (tyX7 j) = vp_V [.null, .null, .null, .null, .int 0, .int 0] j := by decide +kernel
theorem df_X8 : ∀ j, j < 2 → defaultValue (tyX8 j) = vp_V [.null, .null] j := by decide +kernel
theorem df_X9 : ∀ j, j < 8 → defaultValue (tyX9 j) = vp_V [.null, .null, .null, .null, .int 0, .null, .null, .null] j := by decide +kernel
theorem df_X10 : ∀ j, j < 43 → defaultValue (tyX10 j) = vp_V [.int 0, .int 0, .null, .null, .null, .null, .null, .null, .int 0, .null, .null, .null, .null, .null, .null, .null, .null, .null, .null, .null, .null, .null, .null, .int 0, .null, .null, .null, .null, .int 0, .int 0, .int 0, .int 0, .int 0, .int 0, .int 0, .null, .null, .null, .null, .int 0, .int 0, .null, .null] j := by decide +kernel
